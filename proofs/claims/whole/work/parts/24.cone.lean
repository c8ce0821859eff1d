set_option maxHeartbeats 4000000 in
set_option maxRecDepth 100000 in
theorem cX6_goesOn_c (l : Launch) (D : va_G) (cy : Nat → ClassId) (ad : Nat → Nat) (tL z0 : Nat) (hI : gI z0 ad) (n : Nat) (v : gV) (u : Int64) (x1 : Int32) (x2 : Int32) (r0 : Int32) (hs : sX6_goesOn n v x1 x2 = some r0) : Met l yX6_goesOn wsX6_goesOn ({ frames := 4, cells := 0, slots := 0, locals := 88 } : Room) (gPc D cy ad tL z0 v u [.ref (ad 81), .int x1, .int x2]) (gQi D cy ad tL z0 v u r0) 0 0 (gA z0) := by
  refine Met.ofW (cc := cX6_goesOn) (maxL := 5) (ret := (some .boolean)) (by decide) rfl ?_
  intro p e s m args below meth c s₁ B hml hv
  obtain ⟨rfl, hB0⟩ := hv
  have hP : va_P D vwCl (gW cy ad v u) s.heap := hB0.1
  have hK : gK D cy tL z0 s s.heap := hB0.2
  have hx := B.exec
  have hb := B.bytes
  have hr := B.returns
  have hts := atoms_spec (ws := wsX6_goesOn) B.pre
  have hown : s.vm.findClass RX6 = some m.cls := findClass_of_methodNamed B.named
  have hlocks := B.notSynchronized
  have hS : va_S (gA z0) s.heap s.heap [] := va_S.rf
  have hl := lv_entry ([.ref (ad 81), .int x1, .int x2]) (n := 5) (Nat.le_of_ble_eq_true rfl)
  rw [lg_entry_eq]
  generalize (lg_sl ([.ref (ad 81), .int x1, .int x2]) ++ List.replicate (5 - (lg_sl ([.ref (ad 81), .int x1, .int x2])).length) Slot.unset).toArray = ls at hl ⊢
  have hl : lv_has ls 5 [(0, .ref (ad 81)), (1, .int x1), (2, .int x2)] := hl
  clear hB0
  have hL_5 : ∀ (k : Nat), ∀ (w1 : Int32) (w2 : Int32) (w3 : Int32) (w4 : Int32) (H : Heap) (locs : List Loc) (ls : Array Slot), va_P D vwCl (gW cy ad v u) H → va_S (gA z0) s.heap H locs → lv_has ls 5 [(0, .ref (ad 81)), (1, .int w1), (2, .int w2), (3, .int w3), (4, .int w4)] → sX6_goesOn_5 n k v w1 w2 w3 w4 = some r0 → W p l e (headSpec wsX6_goesOn ({ frames := 4, cells := 0, slots := 0, locals := 88 } : Room)).room s m ([.ref (ad 81), .int x1, .int x2] : List Value).toArray below meth c H locs 0 0 (MQ below (gQi D cy ad tL z0 v u r0) ([.ref (ad 81), .int x1, .int x2] : List Value).toArray s 0 0 (gA z0)) (F0 m 5 ls []) := by
    intro k
    induction k with
    | zero =>
      intro w1 w2 w3 w4 H locs ls hP hS hl hs
      exact g_none hs
    | succ k ih =>
      intro w1 w2 w3 w4 H locs ls hP hS hl hs
      rw [sX6_goesOn_5] at hs
      refine lv_iload hx hb dX6_goesOn_5 (lv_at hl 4 rfl) ?_
      refine lv_bipush (v := 25) hx hb dX6_goesOn_7 (by decide) ?_
      refine lv_icmp_ge (tgt := 39) hx hb dX6_goesOn_9 (by decide) (fun hc => ?_) (fun hc => ?_)
      · have hs := g_t hs hc
        refine lv_iload_n hx hb dX6_goesOn_39 rfl (lv_at hl 3 rfl) ?_
        refine g_chk hs (fun hc hs => ?_)
        exact gRet_z hx hb hr hlocks (g_nz hc) hK hP hS ⟨g_some hs, rfl⟩ dX6_goesOn_40
      · have hs := g_f hs hc
        refine lv_iload_n hx hb dX6_goesOn_12 rfl (lv_at hl 3 rfl) ?_
        refine lv_if_ne (tgt := 27) hx hb dX6_goesOn_13 (by decide) (fun hc => ?_) (fun hc => ?_)
        · have hs := g_f hs hc
          refine lv_iconst (v := 1) hx hb dX6_goesOn_27 (by decide) ?_
          refine lv_goto (tgt := 32) hx hb dX6_goesOn_28 (by decide) ?_
          refine lv_istore_n (lv' := [(3, .int 1), (0, .ref (ad 81)), (1, .int w1), (2, .int w2), (4, .int w4)]) hx hb dX6_goesOn_32 rfl hl (by decide) rfl (fun ls hl => ?_)
          refine lv_iinc (v := w4 + 1) (lv' := [(4, .int (w4 + 1)), (3, .int 1), (0, .ref (ad 81)), (1, .int w1), (2, .int w2)]) hx hb dX6_goesOn_33 hl (k := 4) rfl rfl (by decide) rfl (fun ls hl => ?_)
          refine lv_goto (tgt := 5) hx hb dX6_goesOn_36 (by decide) ?_
          exact ih w1 w2 1 (w4 + 1) _ _ _ hP hS (lv_sub hl [2, 3, 4, 1, 0] rfl) hs
        · have hs := g_t hs hc
          refine lv_aload_n hx hb dX6_goesOn_16 rfl (lv_at hl 0 rfl) ?_
          refine lv_iload_n hx hb dX6_goesOn_17 rfl (lv_at hl 1 rfl) ?_
          refine lv_iload hx hb dX6_goesOn_18 (lv_at hl 4 rfl) ?_
          refine lv_iload_n hx hb dX6_goesOn_20 rfl (lv_at hl 2 rfl) ?_
          refine g_bind hs (fun q_1 hq_1 hs => ?_)
          refine gCV_i (As := [.int w1, .int w4, .int w2]) (rest := []) ⟨hx, hb, hml, hown, hts⟩ (cX6_next_c l D cy ad tL z0 hI v u w1 w4 w2 q_1 hq_1) (cwV 3 hts gX6_goesOn_X6_next rfl rfl rfl (by decide +kernel) ⟨Nat.le_of_ble_eq_true rfl, Nat.le_of_ble_eq_true rfl⟩) hK hP hS (va_recv hK.1 hP (ci := 6) (q0 := 81) rfl (gW_6 kd81)) hl.1 rfl rfl (Nat.le_of_ble_eq_true rfl) dX6_goesOn_21 ⟨Nat.zero_le _, Nat.zero_le _⟩ (fun H locs hP hS => ?_)
          refine lv_if_lt (tgt := 31) hx hb dX6_goesOn_24 (by decide) (fun hc => ?_) (fun hc => ?_)
          · have hs := g_t hs hc
            refine lv_iconst (v := 0) hx hb dX6_goesOn_31 (by decide) ?_
            refine lv_istore_n (lv' := [(3, .int 0), (0, .ref (ad 81)), (1, .int w1), (2, .int w2), (4, .int w4)]) hx hb dX6_goesOn_32 rfl hl (by decide) rfl (fun ls hl => ?_)
            refine lv_iinc (v := w4 + 1) (lv' := [(4, .int (w4 + 1)), (3, .int 0), (0, .ref (ad 81)), (1, .int w1), (2, .int w2)]) hx hb dX6_goesOn_33 hl (k := 4) rfl rfl (by decide) rfl (fun ls hl => ?_)
            refine lv_goto (tgt := 5) hx hb dX6_goesOn_36 (by decide) ?_
            exact ih w1 w2 0 (w4 + 1) _ _ _ hP hS (lv_sub hl [2, 3, 4, 1, 0] rfl) hs
          · have hs := g_f hs hc
            refine lv_iconst (v := 1) hx hb dX6_goesOn_27 (by decide) ?_
            refine lv_goto (tgt := 32) hx hb dX6_goesOn_28 (by decide) ?_
            refine lv_istore_n (lv' := [(3, .int 1), (0, .ref (ad 81)), (1, .int w1), (2, .int w2), (4, .int w4)]) hx hb dX6_goesOn_32 rfl hl (by decide) rfl (fun ls hl => ?_)
            refine lv_iinc (v := w4 + 1) (lv' := [(4, .int (w4 + 1)), (3, .int 1), (0, .ref (ad 81)), (1, .int w1), (2, .int w2)]) hx hb dX6_goesOn_33 hl (k := 4) rfl rfl (by decide) rfl (fun ls hl => ?_)
            refine lv_goto (tgt := 5) hx hb dX6_goesOn_36 (by decide) ?_
            exact ih w1 w2 1 (w4 + 1) _ _ _ hP hS (lv_sub hl [2, 3, 4, 1, 0] rfl) hs
  unfold sX6_goesOn at hs
  refine lv_iconst (v := 0) hx hb dX6_goesOn_0 (by decide) ?_
  refine lv_istore_n (lv' := [(3, .int 0), (0, .ref (ad 81)), (1, .int x1), (2, .int x2)]) hx hb dX6_goesOn_1 rfl hl (by decide) rfl (fun ls hl => ?_)
  refine lv_iconst (v := 0) hx hb dX6_goesOn_2 (by decide) ?_
  refine lv_istore (lv' := [(4, .int 0), (3, .int 0), (0, .ref (ad 81)), (1, .int x1), (2, .int x2)]) hx hb dX6_goesOn_3 hl (by decide) rfl (fun ls hl => ?_)
  exact hL_5 n x1 x2 0 0 _ _ _ hP hS (lv_sub hl [2, 3, 4, 1, 0] rfl) hs
set_option maxHeartbeats 4000000 in
set_option maxRecDepth 100000 in
theorem cX6_lengthOf_c (l : Launch) (D : va_G) (cy : Nat → ClassId) (ad : Nat → Nat) (tL z0 : Nat) (hI : gI z0 ad) (v : gV) (u : Int64) (x1 : Int32) (r0 : Int32) (hs : sX6_lengthOf v x1 = some r0) : Met l yX6_lengthOf wsX6_lengthOf ({ frames := 0, cells := 0, slots := 0, locals := 0 } : Room) (gPc D cy ad tL z0 v u [.ref (ad 81), .int x1]) (gQi D cy ad tL z0 v u r0) 0 0 (gA z0) := by
  refine Met.ofW (cc := cX6_lengthOf) (maxL := 2) (ret := (some .int)) (by decide) rfl ?_
  intro p e s m args below meth c s₁ B hml hv
  obtain ⟨rfl, hB0⟩ := hv
  have hP : va_P D vwCl (gW cy ad v u) s.heap := hB0.1
  have hK : gK D cy tL z0 s s.heap := hB0.2
  have hx := B.exec
  have hb := B.bytes
  have hr := B.returns
  have hts := atoms_spec (ws := wsX6_lengthOf) B.pre
  have hown : s.vm.findClass RX6 = some m.cls := findClass_of_methodNamed B.named
  have hlocks := B.notSynchronized
  have hS : va_S (gA z0) s.heap s.heap [] := va_S.rf
  have hl := lv_entry ([.ref (ad 81), .int x1]) (n := 2) (Nat.le_of_ble_eq_true rfl)
  rw [lg_entry_eq]
  generalize (lg_sl ([.ref (ad 81), .int x1]) ++ List.replicate (2 - (lg_sl ([.ref (ad 81), .int x1])).length) Slot.unset).toArray = ls at hl ⊢
  have hl : lv_has ls 2 [(0, .ref (ad 81)), (1, .int x1)] := hl
  have iX6 := (show ∀ w ∈ u_ws RX6 TX6 17, w ∈ wsX6_lengthOf by decide +kernel)
  have f13 := hts (.fieldLink RX6 13 "AdventureParserModel" "begins" "[I") (by decide +kernel)
  clear hB0
  unfold sX6_lengthOf at hs
  refine lv_aload_n hx hb dX6_lengthOf_0 rfl (lv_at hl 0 rfl) ?_
  refine va_get (D := D) (ci := 6) (v := .ref (ad 83)) (C := RX6) (T := TX6) (N := 17) hx hb hts iX6 hown hK.1 hP 81 (gW_6 kd81) rfl 1 (by decide) f13 (fun _ h9 => h9) rfl dX6_lengthOf_1 ?_
  refine lv_iload_n hx hb dX6_lengthOf_4 rfl (lv_at hl 1 rfl) ?_
  refine lv_iconst (v := 1) hx hb dX6_lengthOf_5 (by decide) ?_
  refine lv_iadd hx hb dX6_lengthOf_6 ?_
  refine g_chk hs (fun hc hs => ?_)
  refine va_iald hx hb hK.1 hP 83 0 (gW_15 kd83) rfl hc dX6_lengthOf_7 ?_
  refine lv_aload_n hx hb dX6_lengthOf_8 rfl (lv_at hl 0 rfl) ?_
  refine va_get (D := D) (ci := 6) (v := .ref (ad 83)) (C := RX6) (T := TX6) (N := 17) hx hb hts iX6 hown hK.1 hP 81 (gW_6 kd81) rfl 1 (by decide) f13 (fun _ h9 => h9) rfl dX6_lengthOf_9 ?_
  refine lv_iload_n hx hb dX6_lengthOf_12 rfl (lv_at hl 1 rfl) ?_
  refine g_chk hs (fun hc hs => ?_)
  refine va_iald hx hb hK.1 hP 83 0 (gW_15 kd83) rfl hc dX6_lengthOf_13 ?_
  refine lv_isub hx hb dX6_lengthOf_14 ?_
  exact gRet_i hx hb hr hlocks hK hP hS ⟨g_some hs, rfl⟩ dX6_lengthOf_15
set_option maxHeartbeats 4000000 in
set_option maxRecDepth 100000 in
theorem cX6_spells_c (l : Launch) (D : va_G) (cy : Nat → ClassId) (ad : Nat → Nat) (tL z0 : Nat) (hI : gI z0 ad) (n : Nat) (v : gV) (u : Int64) (x1 : Int32) (x2 : Int32) (x3 : Int32) (r0 : Int32) (hs : sX6_spells n v x1 x2 x3 = some r0) : Met l yX6_spells wsX6_spells ({ frames := 1, cells := 0, slots := 0, locals := 21 } : Room) (gPc D cy ad tL z0 v u [.ref (ad 81), .int x1, .int x2, .int x3]) (gQi D cy ad tL z0 v u r0) 0 0 (gA z0) := by
  refine Met.ofW (cc := cX6_spells) (maxL := 6) (ret := (some .boolean)) (by decide) rfl ?_
  intro p e s m args below meth c s₁ B hml hv
  obtain ⟨rfl, hB0⟩ := hv
  have hP : va_P D vwCl (gW cy ad v u) s.heap := hB0.1
  have hK : gK D cy tL z0 s s.heap := hB0.2
  have hx := B.exec
  have hb := B.bytes
  have hr := B.returns
  have hts := atoms_spec (ws := wsX6_spells) B.pre
  have hown : s.vm.findClass RX6 = some m.cls := findClass_of_methodNamed B.named
  have hlocks := B.notSynchronized
  have hS : va_S (gA z0) s.heap s.heap [] := va_S.rf
  have hl := lv_entry ([.ref (ad 81), .int x1, .int x2, .int x3]) (n := 6) (Nat.le_of_ble_eq_true rfl)
  rw [lg_entry_eq]
  generalize (lg_sl ([.ref (ad 81), .int x1, .int x2, .int x3]) ++ List.replicate (6 - (lg_sl ([.ref (ad 81), .int x1, .int x2, .int x3])).length) Slot.unset).toArray = ls at hl ⊢
  have hl : lv_has ls 6 [(0, .ref (ad 81)), (1, .int x1), (2, .int x2), (3, .int x3)] := hl
  have iX6 := (show ∀ w ∈ u_ws RX6 TX6 17, w ∈ wsX6_spells by decide +kernel)
  have f25 := hts (.fieldLink RX6 25 "AdventureParserModel" "text" "[I") (by decide +kernel)
  have f7 := hts (.fieldLink RX6 7 "AdventureParserModel" "letters" "[I") (by decide +kernel)
  have f13 := hts (.fieldLink RX6 13 "AdventureParserModel" "begins" "[I") (by decide +kernel)
  clear hB0
  have hL_19 : ∀ (k : Nat), ∀ (w1 : Int32) (w2 : Int32) (w3 : Int32) (w4 : Int32) (w5 : Int32) (H : Heap) (locs : List Loc) (ls : Array Slot), va_P D vwCl (gW cy ad v u) H → va_S (gA z0) s.heap H locs → lv_has ls 6 [(0, .ref (ad 81)), (1, .int w1), (2, .int w2), (3, .int w3), (4, .int w4), (5, .int w5)] → sX6_spells_19 n k v w1 w2 w3 w4 w5 = some r0 → W p l e (headSpec wsX6_spells ({ frames := 1, cells := 0, slots := 0, locals := 21 } : Room)).room s m ([.ref (ad 81), .int x1, .int x2, .int x3] : List Value).toArray below meth c H locs 0 0 (MQ below (gQi D cy ad tL z0 v u r0) ([.ref (ad 81), .int x1, .int x2, .int x3] : List Value).toArray s 0 0 (gA z0)) (F0 m 19 ls []) := by
    intro k
    induction k with
    | zero =>
      intro w1 w2 w3 w4 w5 H locs ls hP hS hl hs
      exact g_none hs
    | succ k ih =>
      intro w1 w2 w3 w4 w5 H locs ls hP hS hl hs
      rw [sX6_spells_19] at hs
      refine lv_iload hx hb dX6_spells_19 (lv_at hl 5 rfl) ?_
      refine lv_iload_n hx hb dX6_spells_21 rfl (lv_at hl 3 rfl) ?_
      refine lv_icmp_ge (tgt := 69) hx hb dX6_spells_22 (by decide) (fun hc => ?_) (fun hc => ?_)
      · have hs := g_t hs hc
        refine lv_iload hx hb dX6_spells_69 (lv_at hl 4 rfl) ?_
        refine g_chk hs (fun hc hs => ?_)
        exact gRet_z hx hb hr hlocks (g_nz hc) hK hP hS ⟨g_some hs, rfl⟩ dX6_spells_71
      · have hs := g_f hs hc
        refine lv_iload hx hb dX6_spells_25 (lv_at hl 4 rfl) ?_
        refine lv_if_eq (tgt := 69) hx hb dX6_spells_27 (by decide) (fun hc => ?_) (fun hc => ?_)
        · have hs := g_t hs hc
          refine lv_iload hx hb dX6_spells_69 (lv_at hl 4 rfl) ?_
          refine g_chk hs (fun hc hs => ?_)
          exact gRet_z hx hb hr hlocks (g_nz hc) hK hP hS ⟨g_some hs, rfl⟩ dX6_spells_71
        · have hs := g_f hs hc
          refine lv_aload_n hx hb dX6_spells_30 rfl (lv_at hl 0 rfl) ?_
          refine va_get (D := D) (ci := 6) (v := .ref (ad 87)) (C := RX6) (T := TX6) (N := 17) hx hb hts iX6 hown hK.1 hP 81 (gW_6 kd81) rfl 6 (by decide) f25 (fun _ h9 => h9) rfl dX6_spells_31 ?_
          refine lv_iload_n hx hb dX6_spells_34 rfl (lv_at hl 2 rfl) ?_
          refine lv_iload hx hb dX6_spells_35 (lv_at hl 5 rfl) ?_
          refine lv_iadd hx hb dX6_spells_37 ?_
          refine g_chk hs (fun hc hs => ?_)
          refine va_iald hx hb hK.1 hP 87 0 (gW_18 kd87) rfl hc dX6_spells_38 ?_
          refine lv_aload_n hx hb dX6_spells_39 rfl (lv_at hl 0 rfl) ?_
          refine va_get (D := D) (ci := 6) (v := .ref (ad 82)) (C := RX6) (T := TX6) (N := 17) hx hb hts iX6 hown hK.1 hP 81 (gW_6 kd81) rfl 0 (by decide) f7 (fun _ h9 => h9) rfl dX6_spells_40 ?_
          refine lv_aload_n hx hb dX6_spells_43 rfl (lv_at hl 0 rfl) ?_
          refine va_get (D := D) (ci := 6) (v := .ref (ad 83)) (C := RX6) (T := TX6) (N := 17) hx hb hts iX6 hown hK.1 hP 81 (gW_6 kd81) rfl 1 (by decide) f13 (fun _ h9 => h9) rfl dX6_spells_44 ?_
          refine lv_iload_n hx hb dX6_spells_47 rfl (lv_at hl 1 rfl) ?_
          refine g_chk hs (fun hc hs => ?_)
          refine va_iald hx hb hK.1 hP 83 0 (gW_15 kd83) rfl hc dX6_spells_48 ?_
          refine lv_iload hx hb dX6_spells_49 (lv_at hl 5 rfl) ?_
          refine lv_iadd hx hb dX6_spells_51 ?_
          refine g_chk hs (fun hc hs => ?_)
          refine va_iald hx hb hK.1 hP 82 0 (gW_14 kd82) rfl hc dX6_spells_52 ?_
          refine lv_icmp_ne (tgt := 60) hx hb dX6_spells_53 (by decide) (fun hc => ?_) (fun hc => ?_)
          · have hs := g_f hs hc
            refine lv_iconst (v := 0) hx hb dX6_spells_60 (by decide) ?_
            refine lv_istore (lv' := [(4, .int 0), (0, .ref (ad 81)), (1, .int w1), (2, .int w2), (3, .int w3), (5, .int w5)]) hx hb dX6_spells_61 hl (by decide) rfl (fun ls hl => ?_)
            refine lv_iinc (v := w5 + 1) (lv' := [(5, .int (w5 + 1)), (4, .int 0), (0, .ref (ad 81)), (1, .int w1), (2, .int w2), (3, .int w3)]) hx hb dX6_spells_63 hl (k := 5) rfl rfl (by decide) rfl (fun ls hl => ?_)
            refine lv_goto (tgt := 19) hx hb dX6_spells_66 (by decide) ?_
            exact ih w1 w2 w3 0 (w5 + 1) _ _ _ hP hS (lv_sub hl [2, 3, 4, 5, 1, 0] rfl) hs
          · have hs := g_t hs hc
            refine lv_iconst (v := 1) hx hb dX6_spells_56 (by decide) ?_
            refine lv_goto (tgt := 61) hx hb dX6_spells_57 (by decide) ?_
            refine lv_istore (lv' := [(4, .int 1), (0, .ref (ad 81)), (1, .int w1), (2, .int w2), (3, .int w3), (5, .int w5)]) hx hb dX6_spells_61 hl (by decide) rfl (fun ls hl => ?_)
            refine lv_iinc (v := w5 + 1) (lv' := [(5, .int (w5 + 1)), (4, .int 1), (0, .ref (ad 81)), (1, .int w1), (2, .int w2), (3, .int w3)]) hx hb dX6_spells_63 hl (k := 5) rfl rfl (by decide) rfl (fun ls hl => ?_)
            refine lv_goto (tgt := 19) hx hb dX6_spells_66 (by decide) ?_
            exact ih w1 w2 w3 1 (w5 + 1) _ _ _ hP hS (lv_sub hl [2, 3, 4, 5, 1, 0] rfl) hs
  unfold sX6_spells at hs
  refine lv_iload_n hx hb dX6_spells_0 rfl (lv_at hl 3 rfl) ?_
  refine lv_aload_n hx hb dX6_spells_1 rfl (lv_at hl 0 rfl) ?_
  refine lv_iload_n hx hb dX6_spells_2 rfl (lv_at hl 1 rfl) ?_
  refine g_bind hs (fun q_1 hq_1 hs => ?_)
  refine gCV_i (As := [.int x1]) (rest := [.int x3]) ⟨hx, hb, hml, hown, hts⟩ (cX6_lengthOf_c l D cy ad tL z0 hI v u x1 q_1 hq_1) (cwV 1 hts gX6_spells_X6_lengthOf rfl rfl rfl (by decide +kernel) ⟨Nat.le_of_ble_eq_true rfl, Nat.le_of_ble_eq_true rfl⟩) hK hP hS (va_recv hK.1 hP (ci := 6) (q0 := 81) rfl (gW_6 kd81)) hl.1 rfl rfl (Nat.le_of_ble_eq_true rfl) dX6_spells_3 ⟨Nat.zero_le _, Nat.zero_le _⟩ (fun H locs hP hS => ?_)
  refine lv_icmp_gt (tgt := 13) hx hb dX6_spells_6 (by decide) (fun hc => ?_) (fun hc => ?_)
  · have hs := g_t hs hc
    refine lv_iconst (v := 0) hx hb dX6_spells_13 (by decide) ?_
    refine lv_istore (lv' := [(4, .int 0), (0, .ref (ad 81)), (1, .int x1), (2, .int x2), (3, .int x3)]) hx hb dX6_spells_14 hl (by decide) rfl (fun ls hl => ?_)
    refine lv_iconst (v := 0) hx hb dX6_spells_16 (by decide) ?_
    refine lv_istore (lv' := [(5, .int 0), (4, .int 0), (0, .ref (ad 81)), (1, .int x1), (2, .int x2), (3, .int x3)]) hx hb dX6_spells_17 hl (by decide) rfl (fun ls hl => ?_)
    exact hL_19 n x1 x2 x3 0 0 _ _ _ hP hS (lv_sub hl [2, 3, 4, 5, 1, 0] rfl) hs
  · have hs := g_f hs hc
    refine lv_iconst (v := 1) hx hb dX6_spells_9 (by decide) ?_
    refine lv_goto (tgt := 14) hx hb dX6_spells_10 (by decide) ?_
    refine lv_istore (lv' := [(4, .int 1), (0, .ref (ad 81)), (1, .int x1), (2, .int x2), (3, .int x3)]) hx hb dX6_spells_14 hl (by decide) rfl (fun ls hl => ?_)
    refine lv_iconst (v := 0) hx hb dX6_spells_16 (by decide) ?_
    refine lv_istore (lv' := [(5, .int 0), (4, .int 1), (0, .ref (ad 81)), (1, .int x1), (2, .int x2), (3, .int x3)]) hx hb dX6_spells_17 hl (by decide) rfl (fun ls hl => ?_)
    exact hL_19 n x1 x2 x3 1 0 _ _ _ hP hS (lv_sub hl [2, 3, 4, 5, 1, 0] rfl) hs
set_option maxHeartbeats 4000000 in
set_option maxRecDepth 100000 in
theorem cX6_wordAt_c (l : Launch) (D : va_G) (cy : Nat → ClassId) (ad : Nat → Nat) (tL z0 : Nat) (hI : gI z0 ad) (n : Nat) (v : gV) (u : Int64) (x1 : Int32) (x2 : Int32) (x3 : Int32) (x4 : Int32) (r0 : Int32) (hs : sX6_wordAt n v x1 x2 x3 x4 = some r0) : Met l yX6_wordAt wsX6_wordAt ({ frames := 4, cells := 0, slots := 0, locals := 88 } : Room) (gPc D cy ad tL z0 v u [.ref (ad 81), .int x1, .int x2, .int x3, .int x4]) (gQi D cy ad tL z0 v u r0) 0 0 (gA z0) := by
  refine Met.ofW (cc := cX6_wordAt) (maxL := 6) (ret := (some .int)) (by decide) rfl ?_
  intro p e s m args below meth c s₁ B hml hv
  obtain ⟨rfl, hB0⟩ := hv
  have hP : va_P D vwCl (gW cy ad v u) s.heap := hB0.1
  have hK : gK D cy tL z0 s s.heap := hB0.2
  have hx := B.exec
  have hb := B.bytes
  have hr := B.returns
  have hts := atoms_spec (ws := wsX6_wordAt) B.pre
  have hown : s.vm.findClass RX6 = some m.cls := findClass_of_methodNamed B.named
  have hlocks := B.notSynchronized
  have hS : va_S (gA z0) s.heap s.heap [] := va_S.rf
  have hl := lv_entry ([.ref (ad 81), .int x1, .int x2, .int x3, .int x4]) (n := 6) (Nat.le_of_ble_eq_true rfl)
  rw [lg_entry_eq]
  generalize (lg_sl ([.ref (ad 81), .int x1, .int x2, .int x3, .int x4]) ++ List.replicate (6 - (lg_sl ([.ref (ad 81), .int x1, .int x2, .int x3, .int x4])).length) Slot.unset).toArray = ls at hl ⊢
  have hl : lv_has ls 6 [(0, .ref (ad 81)), (1, .int x1), (2, .int x2), (3, .int x3), (4, .int x4)] := hl
  clear hB0
  have hL_3 : ∀ (k : Nat), ∀ (w1 : Int32) (w2 : Int32) (w3 : Int32) (w4 : Int32) (w5 : Int32) (H : Heap) (locs : List Loc) (ls : Array Slot), va_P D vwCl (gW cy ad v u) H → va_S (gA z0) s.heap H locs → lv_has ls 6 [(0, .ref (ad 81)), (1, .int w1), (2, .int w2), (3, .int w3), (4, .int w4), (5, .int w5)] → sX6_wordAt_3 n k v w1 w2 w3 w4 w5 = some r0 → W p l e (headSpec wsX6_wordAt ({ frames := 4, cells := 0, slots := 0, locals := 88 } : Room)).room s m ([.ref (ad 81), .int x1, .int x2, .int x3, .int x4] : List Value).toArray below meth c H locs 0 0 (MQ below (gQi D cy ad tL z0 v u r0) ([.ref (ad 81), .int x1, .int x2, .int x3, .int x4] : List Value).toArray s 0 0 (gA z0)) (F0 m 3 ls []) := by
    intro k
    induction k with
    | zero =>
      intro w1 w2 w3 w4 w5 H locs ls hP hS hl hs
      exact g_none hs
    | succ k ih =>
      intro w1 w2 w3 w4 w5 H locs ls hP hS hl hs
      rw [sX6_wordAt_3] at hs
      refine lv_iload hx hb dX6_wordAt_3 (lv_at hl 5 rfl) ?_
      refine lv_bipush (v := 25) hx hb dX6_wordAt_5 (by decide) ?_
      refine lv_icmp_ge (tgt := 52) hx hb dX6_wordAt_7 (by decide) (fun hc => ?_) (fun hc => ?_)
      · have hs := g_t hs hc
        refine lv_iconst (v := (-1)) hx hb dX6_wordAt_52 (by decide) ?_
        exact gRet_i hx hb hr hlocks hK hP hS ⟨g_some hs, rfl⟩ dX6_wordAt_53
      · have hs := g_f hs hc
        refine lv_aload_n hx hb dX6_wordAt_10 rfl (lv_at hl 0 rfl) ?_
        refine lv_iload hx hb dX6_wordAt_11 (lv_at hl 5 rfl) ?_
        refine g_bind hs (fun q_1 hq_1 hs => ?_)
        refine gCV_i (As := [.int w5]) (rest := []) ⟨hx, hb, hml, hown, hts⟩ (cX6_lengthOf_c l D cy ad tL z0 hI v u w5 q_1 hq_1) (cwV 1 hts gX6_wordAt_X6_lengthOf rfl rfl rfl (by decide +kernel) ⟨Nat.le_of_ble_eq_true rfl, Nat.le_of_ble_eq_true rfl⟩) hK hP hS (va_recv hK.1 hP (ci := 6) (q0 := 81) rfl (gW_6 kd81)) hl.1 rfl rfl (Nat.le_of_ble_eq_true rfl) dX6_wordAt_13 ⟨Nat.zero_le _, Nat.zero_le _⟩ (fun H locs hP hS => ?_)
        refine lv_iload_n hx hb dX6_wordAt_16 rfl (lv_at hl 2 rfl) ?_
        refine lv_icmp_ne (tgt := 46) hx hb dX6_wordAt_17 (by decide) (fun hc => ?_) (fun hc => ?_)
        · have hs := g_f hs hc
          refine lv_iinc (v := w5 + 1) (lv' := [(5, .int (w5 + 1)), (0, .ref (ad 81)), (1, .int w1), (2, .int w2), (3, .int w3), (4, .int w4)]) hx hb dX6_wordAt_46 hl (k := 5) rfl rfl (by decide) rfl (fun ls hl => ?_)
          refine lv_goto (tgt := 3) hx hb dX6_wordAt_49 (by decide) ?_
          exact ih w1 w2 w3 w4 (w5 + 1) _ _ _ hP hS (lv_sub hl [1, 2, 3, 4, 5, 0] rfl) hs
        · have hs := g_t hs hc
          refine lv_aload_n hx hb dX6_wordAt_20 rfl (lv_at hl 0 rfl) ?_
          refine lv_iload hx hb dX6_wordAt_21 (lv_at hl 5 rfl) ?_
          refine lv_iload_n hx hb dX6_wordAt_23 rfl (lv_at hl 1 rfl) ?_
          refine lv_iload_n hx hb dX6_wordAt_24 rfl (lv_at hl 2 rfl) ?_
          refine g_bind hs (fun q_2 hq_2 hs => ?_)
          refine gCV_i (As := [.int w5, .int w1, .int w2]) (rest := []) ⟨hx, hb, hml, hown, hts⟩ (cX6_spells_c l D cy ad tL z0 hI n v u w5 w1 w2 q_2 hq_2) (cwV 3 hts gX6_wordAt_X6_spells rfl rfl rfl (by decide +kernel) ⟨Nat.le_of_ble_eq_true rfl, Nat.le_of_ble_eq_true rfl⟩) hK hP hS (va_recv hK.1 hP (ci := 6) (q0 := 81) rfl (gW_6 kd81)) hl.1 rfl rfl (Nat.le_of_ble_eq_true rfl) dX6_wordAt_25 ⟨Nat.zero_le _, Nat.zero_le _⟩ (fun H locs hP hS => ?_)
          refine lv_if_eq (tgt := 46) hx hb dX6_wordAt_28 (by decide) (fun hc => ?_) (fun hc => ?_)
          · have hs := g_t hs hc
            refine lv_iinc (v := w5 + 1) (lv' := [(5, .int (w5 + 1)), (0, .ref (ad 81)), (1, .int w1), (2, .int w2), (3, .int w3), (4, .int w4)]) hx hb dX6_wordAt_46 hl (k := 5) rfl rfl (by decide) rfl (fun ls hl => ?_)
            refine lv_goto (tgt := 3) hx hb dX6_wordAt_49 (by decide) ?_
            exact ih w1 w2 w3 w4 (w5 + 1) _ _ _ hP hS (lv_sub hl [1, 2, 3, 4, 5, 0] rfl) hs
          · have hs := g_f hs hc
            refine lv_aload_n hx hb dX6_wordAt_31 rfl (lv_at hl 0 rfl) ?_
            refine lv_iload_n hx hb dX6_wordAt_32 rfl (lv_at hl 3 rfl) ?_
            refine lv_iload hx hb dX6_wordAt_33 (lv_at hl 5 rfl) ?_
            refine lv_iload hx hb dX6_wordAt_35 (lv_at hl 4 rfl) ?_
            refine g_bind hs (fun q_3 hq_3 hs => ?_)
            refine gCV_i (As := [.int w3, .int w5, .int w4]) (rest := []) ⟨hx, hb, hml, hown, hts⟩ (cX6_next_c l D cy ad tL z0 hI v u w3 w5 w4 q_3 hq_3) (cwV 3 hts gX6_wordAt_X6_next rfl rfl rfl (by decide +kernel) ⟨Nat.le_of_ble_eq_true rfl, Nat.le_of_ble_eq_true rfl⟩) hK hP hS (va_recv hK.1 hP (ci := 6) (q0 := 81) rfl (gW_6 kd81)) hl.1 rfl rfl (Nat.le_of_ble_eq_true rfl) dX6_wordAt_37 ⟨Nat.zero_le _, Nat.zero_le _⟩ (fun H locs hP hS => ?_)
            refine lv_if_lt (tgt := 46) hx hb dX6_wordAt_40 (by decide) (fun hc => ?_) (fun hc => ?_)
            · have hs := g_t hs hc
              refine lv_iinc (v := w5 + 1) (lv' := [(5, .int (w5 + 1)), (0, .ref (ad 81)), (1, .int w1), (2, .int w2), (3, .int w3), (4, .int w4)]) hx hb dX6_wordAt_46 hl (k := 5) rfl rfl (by decide) rfl (fun ls hl => ?_)
              refine lv_goto (tgt := 3) hx hb dX6_wordAt_49 (by decide) ?_
              exact ih w1 w2 w3 w4 (w5 + 1) _ _ _ hP hS (lv_sub hl [1, 2, 3, 4, 5, 0] rfl) hs
            · have hs := g_f hs hc
              refine lv_iload hx hb dX6_wordAt_43 (lv_at hl 5 rfl) ?_
              exact gRet_i hx hb hr hlocks hK hP hS ⟨g_some hs, rfl⟩ dX6_wordAt_45
  unfold sX6_wordAt at hs
  refine lv_iconst (v := 0) hx hb dX6_wordAt_0 (by decide) ?_
  refine lv_istore (lv' := [(5, .int 0), (0, .ref (ad 81)), (1, .int x1), (2, .int x2), (3, .int x3), (4, .int x4)]) hx hb dX6_wordAt_1 hl (by decide) rfl (fun ls hl => ?_)
  exact hL_3 n x1 x2 x3 x4 0 _ _ _ hP hS (lv_sub hl [1, 2, 3, 4, 5, 0] rfl) hs
set_option maxHeartbeats 4000000 in
set_option maxRecDepth 100000 in
theorem cX6_canBegin_c (l : Launch) (D : va_G) (cy : Nat → ClassId) (ad : Nat → Nat) (tL z0 : Nat) (hI : gI z0 ad) (n : Nat) (v : gV) (u : Int64) (x1 : Int32) (x2 : Int32) (x3 : Int32) (x4 : Int32) (r0 : Int32) (hs : sX6_canBegin n v x1 x2 x3 x4 = some r0) : Met l yX6_canBegin wsX6_canBegin ({ frames := 4, cells := 0, slots := 0, locals := 88 } : Room) (gPc D cy ad tL z0 v u [.ref (ad 81), .int x1, .int x2, .int x3, .int x4]) (gQi D cy ad tL z0 v u r0) 0 0 (gA z0) := by
  refine Met.ofW (cc := cX6_canBegin) (maxL := 7) (ret := (some .boolean)) (by decide) rfl ?_
  intro p e s m args below meth c s₁ B hml hv
  obtain ⟨rfl, hB0⟩ := hv
  have hP : va_P D vwCl (gW cy ad v u) s.heap := hB0.1
  have hK : gK D cy tL z0 s s.heap := hB0.2
  have hx := B.exec
  have hb := B.bytes
  have hr := B.returns
  have hts := atoms_spec (ws := wsX6_canBegin) B.pre
  have hown : s.vm.findClass RX6 = some m.cls := findClass_of_methodNamed B.named
  have hlocks := B.notSynchronized
  have hS : va_S (gA z0) s.heap s.heap [] := va_S.rf
  have hl := lv_entry ([.ref (ad 81), .int x1, .int x2, .int x3, .int x4]) (n := 7) (Nat.le_of_ble_eq_true rfl)
  rw [lg_entry_eq]
  generalize (lg_sl ([.ref (ad 81), .int x1, .int x2, .int x3, .int x4]) ++ List.replicate (7 - (lg_sl ([.ref (ad 81), .int x1, .int x2, .int x3, .int x4])).length) Slot.unset).toArray = ls at hl ⊢
  have hl : lv_has ls 7 [(0, .ref (ad 81)), (1, .int x1), (2, .int x2), (3, .int x3), (4, .int x4)] := hl
  clear hB0
  have hL_6 : ∀ (k : Nat), ∀ (w1 : Int32) (w2 : Int32) (w3 : Int32) (w4 : Int32) (w5 : Int32) (w6 : Int32) (H : Heap) (locs : List Loc) (ls : Array Slot), va_P D vwCl (gW cy ad v u) H → va_S (gA z0) s.heap H locs → lv_has ls 7 [(0, .ref (ad 81)), (1, .int w1), (2, .int w2), (3, .int w3), (4, .int w4), (5, .int w5), (6, .int w6)] → sX6_canBegin_6 n k v w1 w2 w3 w4 w5 w6 = some r0 → W p l e (headSpec wsX6_canBegin ({ frames := 4, cells := 0, slots := 0, locals := 88 } : Room)).room s m ([.ref (ad 81), .int x1, .int x2, .int x3, .int x4] : List Value).toArray below meth c H locs 0 0 (MQ below (gQi D cy ad tL z0 v u r0) ([.ref (ad 81), .int x1, .int x2, .int x3, .int x4] : List Value).toArray s 0 0 (gA z0)) (F0 m 6 ls []) := by
    intro k
    induction k with
    | zero =>
      intro w1 w2 w3 w4 w5 w6 H locs ls hP hS hl hs
      exact g_none hs
    | succ k ih =>
      intro w1 w2 w3 w4 w5 w6 H locs ls hP hS hl hs
      rw [sX6_canBegin_6] at hs
      refine lv_iload hx hb dX6_canBegin_6 (lv_at hl 6 rfl) ?_
      refine lv_bipush (v := 25) hx hb dX6_canBegin_8 (by decide) ?_
      refine lv_icmp_ge (tgt := 54) hx hb dX6_canBegin_10 (by decide) (fun hc => ?_) (fun hc => ?_)
      · have hs := g_t hs hc
        refine lv_iload hx hb dX6_canBegin_54 (lv_at hl 5 rfl) ?_
        refine g_chk hs (fun hc hs => ?_)
        exact gRet_z hx hb hr hlocks (g_nz hc) hK hP hS ⟨g_some hs, rfl⟩ dX6_canBegin_56
      · have hs := g_f hs hc
        refine lv_iload hx hb dX6_canBegin_13 (lv_at hl 5 rfl) ?_
        refine lv_if_ne (tgt := 41) hx hb dX6_canBegin_15 (by decide) (fun hc => ?_) (fun hc => ?_)
        · have hs := g_f hs hc
          refine lv_iconst (v := 1) hx hb dX6_canBegin_41 (by decide) ?_
          refine lv_goto (tgt := 46) hx hb dX6_canBegin_42 (by decide) ?_
          refine lv_istore (lv' := [(5, .int 1), (0, .ref (ad 81)), (1, .int w1), (2, .int w2), (3, .int w3), (4, .int w4), (6, .int w6)]) hx hb dX6_canBegin_46 hl (by decide) rfl (fun ls hl => ?_)
          refine lv_iinc (v := w6 + 1) (lv' := [(6, .int (w6 + 1)), (5, .int 1), (0, .ref (ad 81)), (1, .int w1), (2, .int w2), (3, .int w3), (4, .int w4)]) hx hb dX6_canBegin_48 hl (k := 6) rfl rfl (by decide) rfl (fun ls hl => ?_)
          refine lv_goto (tgt := 6) hx hb dX6_canBegin_51 (by decide) ?_
          exact ih w1 w2 w3 w4 1 (w6 + 1) _ _ _ hP hS (lv_sub hl [2, 3, 4, 5, 6, 1, 0] rfl) hs
        · have hs := g_t hs hc
          refine lv_aload_n hx hb dX6_canBegin_18 rfl (lv_at hl 0 rfl) ?_
          refine lv_iload hx hb dX6_canBegin_19 (lv_at hl 6 rfl) ?_
          refine lv_iload_n hx hb dX6_canBegin_21 rfl (lv_at hl 1 rfl) ?_
          refine lv_iload_n hx hb dX6_canBegin_22 rfl (lv_at hl 2 rfl) ?_
          refine g_bind hs (fun q_1 hq_1 hs => ?_)
          refine gCV_i (As := [.int w6, .int w1, .int w2]) (rest := []) ⟨hx, hb, hml, hown, hts⟩ (cX6_spells_c l D cy ad tL z0 hI n v u w6 w1 w2 q_1 hq_1) (cwV 3 hts gX6_canBegin_X6_spells rfl rfl rfl (by decide +kernel) ⟨Nat.le_of_ble_eq_true rfl, Nat.le_of_ble_eq_true rfl⟩) hK hP hS (va_recv hK.1 hP (ci := 6) (q0 := 81) rfl (gW_6 kd81)) hl.1 rfl rfl (Nat.le_of_ble_eq_true rfl) dX6_canBegin_23 ⟨Nat.zero_le _, Nat.zero_le _⟩ (fun H locs hP hS => ?_)
          refine lv_if_eq (tgt := 45) hx hb dX6_canBegin_26 (by decide) (fun hc => ?_) (fun hc => ?_)
          · have hs := g_t hs hc
            refine lv_iconst (v := 0) hx hb dX6_canBegin_45 (by decide) ?_
            refine lv_istore (lv' := [(5, .int 0), (0, .ref (ad 81)), (1, .int w1), (2, .int w2), (3, .int w3), (4, .int w4), (6, .int w6)]) hx hb dX6_canBegin_46 hl (by decide) rfl (fun ls hl => ?_)
            refine lv_iinc (v := w6 + 1) (lv' := [(6, .int (w6 + 1)), (5, .int 0), (0, .ref (ad 81)), (1, .int w1), (2, .int w2), (3, .int w3), (4, .int w4)]) hx hb dX6_canBegin_48 hl (k := 6) rfl rfl (by decide) rfl (fun ls hl => ?_)
            refine lv_goto (tgt := 6) hx hb dX6_canBegin_51 (by decide) ?_
            exact ih w1 w2 w3 w4 0 (w6 + 1) _ _ _ hP hS (lv_sub hl [2, 3, 4, 5, 6, 1, 0] rfl) hs
          · have hs := g_f hs hc
            refine lv_aload_n hx hb dX6_canBegin_29 rfl (lv_at hl 0 rfl) ?_
            refine lv_iload_n hx hb dX6_canBegin_30 rfl (lv_at hl 3 rfl) ?_
            refine lv_iload hx hb dX6_canBegin_31 (lv_at hl 6 rfl) ?_
            refine lv_iload hx hb dX6_canBegin_33 (lv_at hl 4 rfl) ?_
            refine g_bind hs (fun q_2 hq_2 hs => ?_)
            refine gCV_i (As := [.int w3, .int w6, .int w4]) (rest := []) ⟨hx, hb, hml, hown, hts⟩ (cX6_next_c l D cy ad tL z0 hI v u w3 w6 w4 q_2 hq_2) (cwV 3 hts gX6_canBegin_X6_next rfl rfl rfl (by decide +kernel) ⟨Nat.le_of_ble_eq_true rfl, Nat.le_of_ble_eq_true rfl⟩) hK hP hS (va_recv hK.1 hP (ci := 6) (q0 := 81) rfl (gW_6 kd81)) hl.1 rfl rfl (Nat.le_of_ble_eq_true rfl) dX6_canBegin_35 ⟨Nat.zero_le _, Nat.zero_le _⟩ (fun H locs hP hS => ?_)
            refine lv_if_lt (tgt := 45) hx hb dX6_canBegin_38 (by decide) (fun hc => ?_) (fun hc => ?_)
            · have hs := g_t hs hc
              refine lv_iconst (v := 0) hx hb dX6_canBegin_45 (by decide) ?_
              refine lv_istore (lv' := [(5, .int 0), (0, .ref (ad 81)), (1, .int w1), (2, .int w2), (3, .int w3), (4, .int w4), (6, .int w6)]) hx hb dX6_canBegin_46 hl (by decide) rfl (fun ls hl => ?_)
              refine lv_iinc (v := w6 + 1) (lv' := [(6, .int (w6 + 1)), (5, .int 0), (0, .ref (ad 81)), (1, .int w1), (2, .int w2), (3, .int w3), (4, .int w4)]) hx hb dX6_canBegin_48 hl (k := 6) rfl rfl (by decide) rfl (fun ls hl => ?_)
              refine lv_goto (tgt := 6) hx hb dX6_canBegin_51 (by decide) ?_
              exact ih w1 w2 w3 w4 0 (w6 + 1) _ _ _ hP hS (lv_sub hl [2, 3, 4, 5, 6, 1, 0] rfl) hs
            · have hs := g_f hs hc
              refine lv_iconst (v := 1) hx hb dX6_canBegin_41 (by decide) ?_
              refine lv_goto (tgt := 46) hx hb dX6_canBegin_42 (by decide) ?_
              refine lv_istore (lv' := [(5, .int 1), (0, .ref (ad 81)), (1, .int w1), (2, .int w2), (3, .int w3), (4, .int w4), (6, .int w6)]) hx hb dX6_canBegin_46 hl (by decide) rfl (fun ls hl => ?_)
              refine lv_iinc (v := w6 + 1) (lv' := [(6, .int (w6 + 1)), (5, .int 1), (0, .ref (ad 81)), (1, .int w1), (2, .int w2), (3, .int w3), (4, .int w4)]) hx hb dX6_canBegin_48 hl (k := 6) rfl rfl (by decide) rfl (fun ls hl => ?_)
              refine lv_goto (tgt := 6) hx hb dX6_canBegin_51 (by decide) ?_
              exact ih w1 w2 w3 w4 1 (w6 + 1) _ _ _ hP hS (lv_sub hl [2, 3, 4, 5, 6, 1, 0] rfl) hs
  unfold sX6_canBegin at hs
  refine lv_iconst (v := 0) hx hb dX6_canBegin_0 (by decide) ?_
  refine lv_istore (lv' := [(5, .int 0), (0, .ref (ad 81)), (1, .int x1), (2, .int x2), (3, .int x3), (4, .int x4)]) hx hb dX6_canBegin_1 hl (by decide) rfl (fun ls hl => ?_)
  refine lv_iconst (v := 0) hx hb dX6_canBegin_3 (by decide) ?_
  refine lv_istore (lv' := [(6, .int 0), (5, .int 0), (0, .ref (ad 81)), (1, .int x1), (2, .int x2), (3, .int x3), (4, .int x4)]) hx hb dX6_canBegin_4 hl (by decide) rfl (fun ls hl => ?_)
  exact hL_6 n x1 x2 x3 x4 0 0 _ _ _ hP hS (lv_sub hl [2, 3, 4, 5, 6, 1, 0] rfl) hs
set_option maxHeartbeats 4000000 in
set_option maxRecDepth 100000 in
theorem cX6_read_c (l : Launch) (D : va_G) (cy : Nat → ClassId) (ad : Nat → Nat) (tL z0 : Nat) (hI : gI z0 ad) (n : Nat) (v : gV) (u : Int64) (r0 : Int32) (v1 : gV) (hs : sX6_read n v = some (r0, v1)) : Met l yX6_read wsX6_read ({ frames := 5, cells := 0, slots := 0, locals := 114 } : Room) (gPc D cy ad tL z0 v u [.ref (ad 81)]) (gQi D cy ad tL z0 v1 u r0) 0 0 (gA z0) := by
  refine Met.ofW (cc := cX6_read) (maxL := 7) (ret := (some .int)) (by decide) rfl ?_
  intro p e s m args below meth c s₁ B hml hv
  obtain ⟨rfl, hB0⟩ := hv
  have hP : va_P D vwCl (gW cy ad v u) s.heap := hB0.1
  have hK : gK D cy tL z0 s s.heap := hB0.2
  have hx := B.exec
  have hb := B.bytes
  have hr := B.returns
  have hts := atoms_spec (ws := wsX6_read) B.pre
  have hown : s.vm.findClass RX6 = some m.cls := findClass_of_methodNamed B.named
  have hlocks := B.notSynchronized
  have hS : va_S (gA z0) s.heap s.heap [] := va_S.rf
  have hl := lv_entry ([.ref (ad 81)]) (n := 7) (Nat.le_of_ble_eq_true rfl)
  rw [lg_entry_eq]
  generalize (lg_sl ([.ref (ad 81)]) ++ List.replicate (7 - (lg_sl ([.ref (ad 81)])).length) Slot.unset).toArray = ls at hl ⊢
  have hl : lv_has ls 7 [(0, .ref (ad 81))] := hl
  have iX6 := (show ∀ w ∈ u_ws RX6 TX6 17, w ∈ wsX6_read by decide +kernel)
  have f84 := hts (.fieldLink RX6 84 "AdventureParserModel" "many" "I") (by decide +kernel)
  have f87 := hts (.fieldLink RX6 87 "AdventureParserModel" "isComplete" "Z") (by decide +kernel)
  have f91 := hts (.fieldLink RX6 91 "AdventureParserModel" "length" "I") (by decide +kernel)
  have f28 := hts (.fieldLink RX6 28 "AdventureParserModel" "words" "[I") (by decide +kernel)
  have f25 := hts (.fieldLink RX6 25 "AdventureParserModel" "text" "[I") (by decide +kernel)
  clear hB0
  have hJ_231 : ∀ (v : gV) (w5 : Int32) (t0 : Int32) (H : Heap) (locs : List Loc) (ls : Array Slot), va_P D vwCl (gW cy ad v u) H → va_S (gA z0) s.heap H locs → lv_has ls 7 [(0, .ref (ad 81)), (5, .int w5)] → sX6_read_231 n v w5 t0 = some (r0, v1) → W p l e (headSpec wsX6_read ({ frames := 5, cells := 0, slots := 0, locals := 114 } : Room)).room s m ([.ref (ad 81)] : List Value).toArray below meth c H locs 0 0 (MQ below (gQi D cy ad tL z0 v1 u r0) ([.ref (ad 81)] : List Value).toArray s 0 0 (gA z0)) (F0 m 231 ls [.int t0]) := by
    intro v w5 t0 H locs ls hP hS hl hs
    unfold sX6_read_231 at hs
    refine lv_istore_n (lv' := [(3, .int t0), (0, .ref (ad 81)), (5, .int w5)]) hx hb dX6_read_231 rfl hl (by decide) rfl (fun ls hl => ?_)
    refine lv_aload_n hx hb dX6_read_232 rfl (lv_at hl 1 rfl) ?_
    refine lv_iload hx hb dX6_read_233 (lv_at hl 2 rfl) ?_
    refine lv_bipush (v := 11) hx hb dX6_read_235 (by decide) ?_
    refine lv_icmp_eq (tgt := 270) hx hb dX6_read_237 (by decide) (fun hc => ?_) (fun hc => ?_)
    · have hs := g_t hs hc
      refine lv_iconst (v := 1) hx hb dX6_read_270 (by decide) ?_
      refine lv_goto (tgt := 275) hx hb dX6_read_271 (by decide) ?_
      refine va_put (D := D) (ci := 6) (v := .int 1) (ty := .boolean) (C := RX6) (T := TX6) (N := 17) hx hb hts iX6 tyX6 tyX6_ok nmX6 hown hK.1 hP (gD hI) hS 81 (gW_6 kd81) rfl 11 (by decide) f87 (fun _ h9 => h9) rfl (by decide +kernel) rfl rfl (Nat.le_of_ble_eq_true rfl) dX6_read_275 (fun H locs hP _ hS => ?_)
      refine g_let hs (fun v_7 ev_7 hs => ?_)
      have hP : va_P D vwCl (gW cy ad v_7 u) H := gPset ((gS_6_11 kd81 1).trans (congrArg (fun z => gW cy ad z u) ev_7.symm)) hP
      refine lv_aload_n hx hb dX6_read_278 rfl (lv_at hl 1 rfl) ?_
      refine va_get (D := D) (ci := 6) (v := .int (v_7 81 7)) (C := RX6) (T := TX6) (N := 17) hx hb hts iX6 hown hK.1 hP 81 (gW_6 kd81) rfl 7 (by decide) f91 (fun _ h9 => h9) rfl dX6_read_279 ?_
      exact gRet_i hx hb hr hlocks hK hP hS (g_some2 hs) dX6_read_282
    · have hs := g_f hs hc
      refine lv_iload hx hb dX6_read_240 (lv_at hl 2 rfl) ?_
      refine lv_bipush (v := 13) hx hb dX6_read_242 (by decide) ?_
      refine lv_icmp_eq (tgt := 270) hx hb dX6_read_244 (by decide) (fun hc => ?_) (fun hc => ?_)
      · have hs := g_t hs hc
        refine lv_iconst (v := 1) hx hb dX6_read_270 (by decide) ?_
        refine lv_goto (tgt := 275) hx hb dX6_read_271 (by decide) ?_
        refine va_put (D := D) (ci := 6) (v := .int 1) (ty := .boolean) (C := RX6) (T := TX6) (N := 17) hx hb hts iX6 tyX6 tyX6_ok nmX6 hown hK.1 hP (gD hI) hS 81 (gW_6 kd81) rfl 11 (by decide) f87 (fun _ h9 => h9) rfl (by decide +kernel) rfl rfl (Nat.le_of_ble_eq_true rfl) dX6_read_275 (fun H locs hP _ hS => ?_)
        refine g_let hs (fun v_8 ev_8 hs => ?_)
        have hP : va_P D vwCl (gW cy ad v_8 u) H := gPset ((gS_6_11 kd81 1).trans (congrArg (fun z => gW cy ad z u) ev_8.symm)) hP
        refine lv_aload_n hx hb dX6_read_278 rfl (lv_at hl 1 rfl) ?_
        refine va_get (D := D) (ci := 6) (v := .int (v_8 81 7)) (C := RX6) (T := TX6) (N := 17) hx hb hts iX6 hown hK.1 hP 81 (gW_6 kd81) rfl 7 (by decide) f91 (fun _ h9 => h9) rfl dX6_read_279 ?_
        exact gRet_i hx hb hr hlocks hK hP hS (g_some2 hs) dX6_read_282
      · have hs := g_f hs hc
        refine lv_iload_n hx hb dX6_read_247 rfl (lv_at hl 0 rfl) ?_
        refine lv_if_ne (tgt := 274) hx hb dX6_read_248 (by decide) (fun hc => ?_) (fun hc => ?_)
        · have hs := g_f hs hc
          refine lv_iconst (v := 0) hx hb dX6_read_274 (by decide) ?_
          refine va_put (D := D) (ci := 6) (v := .int 0) (ty := .boolean) (C := RX6) (T := TX6) (N := 17) hx hb hts iX6 tyX6 tyX6_ok nmX6 hown hK.1 hP (gD hI) hS 81 (gW_6 kd81) rfl 11 (by decide) f87 (fun _ h9 => h9) rfl (by decide +kernel) rfl rfl (Nat.le_of_ble_eq_true rfl) dX6_read_275 (fun H locs hP _ hS => ?_)
          refine g_let hs (fun v_9 ev_9 hs => ?_)
          have hP : va_P D vwCl (gW cy ad v_9 u) H := gPset ((gS_6_11 kd81 0).trans (congrArg (fun z => gW cy ad z u) ev_9.symm)) hP
          refine lv_aload_n hx hb dX6_read_278 rfl (lv_at hl 1 rfl) ?_
          refine va_get (D := D) (ci := 6) (v := .int (v_9 81 7)) (C := RX6) (T := TX6) (N := 17) hx hb hts iX6 hown hK.1 hP 81 (gW_6 kd81) rfl 7 (by decide) f91 (fun _ h9 => h9) rfl dX6_read_279 ?_
          exact gRet_i hx hb hr hlocks hK hP hS (g_some2 hs) dX6_read_282
        · have hs := g_t hs hc
          refine lv_iload hx hb dX6_read_251 (lv_at hl 2 rfl) ?_
          refine lv_iconst (v := 2) hx hb dX6_read_253 (by decide) ?_
          refine lv_icmp_eq (tgt := 270) hx hb dX6_read_254 (by decide) (fun hc => ?_) (fun hc => ?_)
          · have hs := g_t hs hc
            refine lv_iconst (v := 1) hx hb dX6_read_270 (by decide) ?_
            refine lv_goto (tgt := 275) hx hb dX6_read_271 (by decide) ?_
            refine va_put (D := D) (ci := 6) (v := .int 1) (ty := .boolean) (C := RX6) (T := TX6) (N := 17) hx hb hts iX6 tyX6 tyX6_ok nmX6 hown hK.1 hP (gD hI) hS 81 (gW_6 kd81) rfl 11 (by decide) f87 (fun _ h9 => h9) rfl (by decide +kernel) rfl rfl (Nat.le_of_ble_eq_true rfl) dX6_read_275 (fun H locs hP _ hS => ?_)
            refine g_let hs (fun v_10 ev_10 hs => ?_)
            have hP : va_P D vwCl (gW cy ad v_10 u) H := gPset ((gS_6_11 kd81 1).trans (congrArg (fun z => gW cy ad z u) ev_10.symm)) hP
            refine lv_aload_n hx hb dX6_read_278 rfl (lv_at hl 1 rfl) ?_
            refine va_get (D := D) (ci := 6) (v := .int (v_10 81 7)) (C := RX6) (T := TX6) (N := 17) hx hb hts iX6 hown hK.1 hP 81 (gW_6 kd81) rfl 7 (by decide) f91 (fun _ h9 => h9) rfl dX6_read_279 ?_
            exact gRet_i hx hb hr hlocks hK hP hS (g_some2 hs) dX6_read_282
          · have hs := g_f hs hc
            refine lv_iload hx hb dX6_read_257 (lv_at hl 2 rfl) ?_
            refine lv_iconst (v := 3) hx hb dX6_read_259 (by decide) ?_
            refine lv_icmp_eq (tgt := 270) hx hb dX6_read_260 (by decide) (fun hc => ?_) (fun hc => ?_)
            · have hs := g_t hs hc
              refine lv_iconst (v := 1) hx hb dX6_read_270 (by decide) ?_
              refine lv_goto (tgt := 275) hx hb dX6_read_271 (by decide) ?_
              refine va_put (D := D) (ci := 6) (v := .int 1) (ty := .boolean) (C := RX6) (T := TX6) (N := 17) hx hb hts iX6 tyX6 tyX6_ok nmX6 hown hK.1 hP (gD hI) hS 81 (gW_6 kd81) rfl 11 (by decide) f87 (fun _ h9 => h9) rfl (by decide +kernel) rfl rfl (Nat.le_of_ble_eq_true rfl) dX6_read_275 (fun H locs hP _ hS => ?_)
              refine g_let hs (fun v_11 ev_11 hs => ?_)
              have hP : va_P D vwCl (gW cy ad v_11 u) H := gPset ((gS_6_11 kd81 1).trans (congrArg (fun z => gW cy ad z u) ev_11.symm)) hP
              refine lv_aload_n hx hb dX6_read_278 rfl (lv_at hl 1 rfl) ?_
              refine va_get (D := D) (ci := 6) (v := .int (v_11 81 7)) (C := RX6) (T := TX6) (N := 17) hx hb hts iX6 hown hK.1 hP 81 (gW_6 kd81) rfl 7 (by decide) f91 (fun _ h9 => h9) rfl dX6_read_279 ?_
              exact gRet_i hx hb hr hlocks hK hP hS (g_some2 hs) dX6_read_282
            · have hs := g_f hs hc
              refine lv_iload hx hb dX6_read_263 (lv_at hl 2 rfl) ?_
              refine lv_bipush (v := 6) hx hb dX6_read_265 (by decide) ?_
              refine lv_icmp_ne (tgt := 274) hx hb dX6_read_267 (by decide) (fun hc => ?_) (fun hc => ?_)
              · have hs := g_f hs hc
                refine lv_iconst (v := 0) hx hb dX6_read_274 (by decide) ?_
                refine va_put (D := D) (ci := 6) (v := .int 0) (ty := .boolean) (C := RX6) (T := TX6) (N := 17) hx hb hts iX6 tyX6 tyX6_ok nmX6 hown hK.1 hP (gD hI) hS 81 (gW_6 kd81) rfl 11 (by decide) f87 (fun _ h9 => h9) rfl (by decide +kernel) rfl rfl (Nat.le_of_ble_eq_true rfl) dX6_read_275 (fun H locs hP _ hS => ?_)
                refine g_let hs (fun v_12 ev_12 hs => ?_)
                have hP : va_P D vwCl (gW cy ad v_12 u) H := gPset ((gS_6_11 kd81 0).trans (congrArg (fun z => gW cy ad z u) ev_12.symm)) hP
                refine lv_aload_n hx hb dX6_read_278 rfl (lv_at hl 1 rfl) ?_
                refine va_get (D := D) (ci := 6) (v := .int (v_12 81 7)) (C := RX6) (T := TX6) (N := 17) hx hb hts iX6 hown hK.1 hP 81 (gW_6 kd81) rfl 7 (by decide) f91 (fun _ h9 => h9) rfl dX6_read_279 ?_
                exact gRet_i hx hb hr hlocks hK hP hS (g_some2 hs) dX6_read_282
              · have hs := g_t hs hc
                refine lv_iconst (v := 1) hx hb dX6_read_270 (by decide) ?_
                refine lv_goto (tgt := 275) hx hb dX6_read_271 (by decide) ?_
                refine va_put (D := D) (ci := 6) (v := .int 1) (ty := .boolean) (C := RX6) (T := TX6) (N := 17) hx hb hts iX6 tyX6 tyX6_ok nmX6 hown hK.1 hP (gD hI) hS 81 (gW_6 kd81) rfl 11 (by decide) f87 (fun _ h9 => h9) rfl (by decide +kernel) rfl rfl (Nat.le_of_ble_eq_true rfl) dX6_read_275 (fun H locs hP _ hS => ?_)
                refine g_let hs (fun v_13 ev_13 hs => ?_)
                have hP : va_P D vwCl (gW cy ad v_13 u) H := gPset ((gS_6_11 kd81 1).trans (congrArg (fun z => gW cy ad z u) ev_13.symm)) hP
                refine lv_aload_n hx hb dX6_read_278 rfl (lv_at hl 1 rfl) ?_
                refine va_get (D := D) (ci := 6) (v := .int (v_13 81 7)) (C := RX6) (T := TX6) (N := 17) hx hb hts iX6 hown hK.1 hP 81 (gW_6 kd81) rfl 7 (by decide) f91 (fun _ h9 => h9) rfl dX6_read_279 ?_
                exact gRet_i hx hb hr hlocks hK hP hS (g_some2 hs) dX6_read_282
  have hL_19 : ∀ (k : Nat), ∀ (v : gV) (w1 : Int32) (w2 : Int32) (w3 : Int32) (w4 : Int32) (H : Heap) (locs : List Loc) (ls : Array Slot), va_P D vwCl (gW cy ad v u) H → va_S (gA z0) s.heap H locs → lv_has ls 7 [(0, .ref (ad 81)), (1, .int w1), (2, .int w2), (3, .int w3), (4, .int w4)] → sX6_read_19 n k v w1 w2 w3 w4 = some (r0, v1) → W p l e (headSpec wsX6_read ({ frames := 5, cells := 0, slots := 0, locals := 114 } : Room)).room s m ([.ref (ad 81)] : List Value).toArray below meth c H locs 0 0 (MQ below (gQi D cy ad tL z0 v1 u r0) ([.ref (ad 81)] : List Value).toArray s 0 0 (gA z0)) (F0 m 19 ls []) := by
    intro k
    induction k with
    | zero =>
      intro v w1 w2 w3 w4 H locs ls hP hS hl hs
      exact g_none hs
    | succ k ih =>
      have hJ_88 : ∀ (v : gV) (w4 : Int32) (w5 : Int32) (w6 : Int32) (t0 : Int32) (H : Heap) (locs : List Loc) (ls : Array Slot), va_P D vwCl (gW cy ad v u) H → va_S (gA z0) s.heap H locs → lv_has ls 7 [(0, .ref (ad 81)), (4, .int w4), (5, .int w5), (6, .int w6)] → sX6_read_88 n (sX6_read_19 n k) v w4 w5 w6 t0 = some (r0, v1) → W p l e (headSpec wsX6_read ({ frames := 5, cells := 0, slots := 0, locals := 114 } : Room)).room s m ([.ref (ad 81)] : List Value).toArray below meth c H locs 0 0 (MQ below (gQi D cy ad tL z0 v1 u r0) ([.ref (ad 81)] : List Value).toArray s 0 0 (gA z0)) (F0 m 88 ls [.int t0]) := by
        intro v w4 w5 w6 t0 H locs ls hP hS hl hs
        unfold sX6_read_88 at hs
        refine lv_istore_n (lv' := [(3, .int t0), (0, .ref (ad 81)), (4, .int w4), (5, .int w5), (6, .int w6)]) hx hb dX6_read_88 rfl hl (by decide) rfl (fun ls hl => ?_)
        refine lv_iload hx hb dX6_read_89 (lv_at hl 4 rfl) ?_
        refine lv_if_lt (tgt := 104) hx hb dX6_read_91 (by decide) (fun hc => ?_) (fun hc => ?_)
        · have hs := g_t hs hc
          refine lv_iload hx hb dX6_read_104 (lv_at hl 2 rfl) ?_
          exact gRet_i hx hb hr hlocks hK hP hS (g_some2 hs) dX6_read_106
        · have hs := g_f hs hc
          refine lv_aload_n hx hb dX6_read_94 rfl (lv_at hl 1 rfl) ?_
          refine lv_iload hx hb dX6_read_95 (lv_at hl 4 rfl) ?_
          refine lv_iload_n hx hb dX6_read_97 rfl (lv_at hl 0 rfl) ?_
          refine g_bind hs (fun q_17 hq_17 hs => ?_)
          refine gCV_i (As := [.int w6, .int t0]) (rest := []) ⟨hx, hb, hml, hown, hts⟩ (cX6_goesOn_c l D cy ad tL z0 hI n v u w6 t0 q_17 hq_17) (cwV 2 hts gX6_read_X6_goesOn rfl rfl rfl (by decide +kernel) ⟨Nat.le_of_ble_eq_true rfl, Nat.le_of_ble_eq_true rfl⟩) hK hP hS (va_recv hK.1 hP (ci := 6) (q0 := 81) rfl (gW_6 kd81)) hl.1 rfl rfl (Nat.le_of_ble_eq_true rfl) dX6_read_98 ⟨Nat.zero_le _, Nat.zero_le _⟩ (fun H locs hP hS => ?_)
          refine lv_if_ne (tgt := 107) hx hb dX6_read_101 (by decide) (fun hc => ?_) (fun hc => ?_)
          · have hs := g_f hs hc
            refine lv_aload_n hx hb dX6_read_107 rfl (lv_at hl 1 rfl) ?_
            refine va_get (D := D) (ci := 6) (v := .ref (ad 88)) (C := RX6) (T := TX6) (N := 17) hx hb hts iX6 hown hK.1 hP 81 (gW_6 kd81) rfl 9 (by decide) f28 (fun _ h9 => h9) rfl dX6_read_108 ?_
            refine lv_aload_n hx hb dX6_read_111 rfl (lv_at hl 1 rfl) ?_
            refine va_get (D := D) (ci := 6) (v := .int (v 81 10)) (C := RX6) (T := TX6) (N := 17) hx hb hts iX6 hown hK.1 hP 81 (gW_6 kd81) rfl 10 (by decide) f84 (fun _ h9 => h9) rfl dX6_read_112 ?_
            refine lv_iload hx hb dX6_read_115 (lv_at hl 3 rfl) ?_
            refine g_chk hs (fun hc hs => ?_)
            refine va_iast hx hb hK.1 hP (gD hI) hS 88 0 (gW_19 kd88) rfl hc dX6_read_117 (fun H locs hP _ hS => ?_)
            refine g_let hs (fun v_18 ev_18 hs => ?_)
            have hP : va_P D vwCl (gW cy ad v_18 u) H := gPset ((gS_19 kd88 (v 81 10).toNatClampNeg w5).trans (congrArg (fun z => gW cy ad z u) ev_18.symm)) hP
            refine lv_aload_n hx hb dX6_read_118 rfl (lv_at hl 1 rfl) ?_
            refine lv_dup hx hb dX6_read_119 rfl ?_
            refine va_get (D := D) (ci := 6) (v := .int (v_18 81 10)) (C := RX6) (T := TX6) (N := 17) hx hb hts iX6 hown hK.1 hP 81 (gW_6 kd81) rfl 10 (by decide) f84 (fun _ h9 => h9) rfl dX6_read_120 ?_
            refine lv_iconst (v := 1) hx hb dX6_read_123 (by decide) ?_
            refine lv_iadd hx hb dX6_read_124 ?_
            refine va_put (D := D) (ci := 6) (v := .int ((v_18 81 10) + 1)) (ty := .int) (C := RX6) (T := TX6) (N := 17) hx hb hts iX6 tyX6 tyX6_ok nmX6 hown hK.1 hP (gD hI) hS 81 (gW_6 kd81) rfl 10 (by decide) f84 (fun _ h9 => h9) rfl (by decide +kernel) rfl rfl (Nat.le_of_ble_eq_true rfl) dX6_read_125 (fun H locs hP _ hS => ?_)
            refine g_let hs (fun v_19 ev_19 hs => ?_)
            have hP : va_P D vwCl (gW cy ad v_19 u) H := gPset ((gS_6_10 kd81 ((v_18 81 10) + 1)).trans (congrArg (fun z => gW cy ad z u) ev_19.symm)) hP
            refine lv_iload hx hb dX6_read_128 (lv_at hl 4 rfl) ?_
            refine lv_istore_n (lv' := [(1, .int w6), (3, .int t0), (0, .ref (ad 81)), (4, .int w4), (5, .int w5), (6, .int w6)]) hx hb dX6_read_130 rfl hl (by decide) rfl (fun ls hl => ?_)
            refine lv_iload hx hb dX6_read_131 (lv_at hl 3 rfl) ?_
            refine lv_iconst (v := 1) hx hb dX6_read_133 (by decide) ?_
            refine lv_iadd hx hb dX6_read_134 ?_
            refine lv_istore_n (lv' := [(2, .int (w4 + 1)), (1, .int w6), (3, .int t0), (0, .ref (ad 81)), (4, .int w4), (5, .int w5), (6, .int w6)]) hx hb dX6_read_135 rfl hl (by decide) rfl (fun ls hl => ?_)
            refine lv_goto (tgt := 158) hx hb dX6_read_136 (by decide) ?_
            refine lv_iinc (v := w4 + 1) (lv' := [(4, .int (w4 + 1)), (2, .int (w4 + 1)), (1, .int w6), (3, .int t0), (0, .ref (ad 81)), (5, .int w5), (6, .int w6)]) hx hb dX6_read_158 hl (k := 4) rfl rfl (by decide) rfl (fun ls hl => ?_)
            refine lv_goto (tgt := 19) hx hb dX6_read_161 (by decide) ?_
            exact ih v_19 w6 (w4 + 1) t0 (w4 + 1) _ _ _ hP hS (lv_sub hl [4, 2, 1, 3, 0] rfl) hs
          · have hs := g_t hs hc
            refine lv_iload hx hb dX6_read_104 (lv_at hl 2 rfl) ?_
            exact gRet_i hx hb hr hlocks hK hP hS (g_some2 hs) dX6_read_106
      have hJ_70 : ∀ (v : gV) (w3 : Int32) (w4 : Int32) (w5 : Int32) (t0 : Int32) (H : Heap) (locs : List Loc) (ls : Array Slot), va_P D vwCl (gW cy ad v u) H → va_S (gA z0) s.heap H locs → lv_has ls 7 [(0, .ref (ad 81)), (3, .int w3), (4, .int w4), (5, .int w5)] → sX6_read_70 n (sX6_read_19 n k) v w3 w4 w5 t0 = some (r0, v1) → W p l e (headSpec wsX6_read ({ frames := 5, cells := 0, slots := 0, locals := 114 } : Room)).room s m ([.ref (ad 81)] : List Value).toArray below meth c H locs 0 0 (MQ below (gQi D cy ad tL z0 v1 u r0) ([.ref (ad 81)] : List Value).toArray s 0 0 (gA z0)) (F0 m 70 ls [.int t0]) := by
        intro v w3 w4 w5 t0 H locs ls hP hS hl hs
        unfold sX6_read_70 at hs
        refine lv_istore (lv' := [(6, .int t0), (0, .ref (ad 81)), (3, .int w3), (4, .int w4), (5, .int w5)]) hx hb dX6_read_70 hl (by decide) rfl (fun ls hl => ?_)
        refine lv_iload_n hx hb dX6_read_72 rfl (lv_at hl 2 rfl) ?_
        refine lv_if_ne (tgt := 83) hx hb dX6_read_73 (by decide) (fun hc => ?_) (fun hc => ?_)
        · have hs := g_f hs hc
          refine lv_iconst (v := 1) hx hb dX6_read_83 (by decide) ?_
          refine lv_goto (tgt := 88) hx hb dX6_read_84 (by decide) ?_
          exact hJ_88 v w4 w5 t0 1 _ _ _ hP hS (lv_sub hl [1, 3, 4, 0] rfl) hs
        · have hs := g_t hs hc
          refine lv_iload hx hb dX6_read_76 (lv_at hl 4 rfl) ?_
          refine lv_bipush (v := 12) hx hb dX6_read_78 (by decide) ?_
          refine lv_icmp_ne (tgt := 87) hx hb dX6_read_80 (by decide) (fun hc => ?_) (fun hc => ?_)
          · have hs := g_f hs hc
            refine lv_iconst (v := 0) hx hb dX6_read_87 (by decide) ?_
            exact hJ_88 v w4 w5 t0 0 _ _ _ hP hS (lv_sub hl [1, 3, 4, 0] rfl) hs
          · have hs := g_t hs hc
            refine lv_iconst (v := 1) hx hb dX6_read_83 (by decide) ?_
            refine lv_goto (tgt := 88) hx hb dX6_read_84 (by decide) ?_
            exact hJ_88 v w4 w5 t0 1 _ _ _ hP hS (lv_sub hl [1, 3, 4, 0] rfl) hs
      intro v w1 w2 w3 w4 H locs ls hP hS hl hs
      rw [sX6_read_19] at hs
      refine lv_iload hx hb dX6_read_19 (lv_at hl 4 rfl) ?_
      refine lv_aload_n hx hb dX6_read_21 rfl (lv_at hl 0 rfl) ?_
      refine va_get (D := D) (ci := 6) (v := .int (v 81 7)) (C := RX6) (T := TX6) (N := 17) hx hb hts iX6 hown hK.1 hP 81 (gW_6 kd81) rfl 7 (by decide) f91 (fun _ h9 => h9) rfl dX6_read_22 ?_
      refine lv_icmp_ge (tgt := 164) hx hb dX6_read_25 (by decide) (fun hc => ?_) (fun hc => ?_)
      · have hs := g_t hs hc
        refine lv_aload_n hx hb dX6_read_164 rfl (lv_at hl 0 rfl) ?_
        refine lv_iload_n hx hb dX6_read_165 rfl (lv_at hl 2 rfl) ?_
        refine lv_aload_n hx hb dX6_read_166 rfl (lv_at hl 0 rfl) ?_
        refine va_get (D := D) (ci := 6) (v := .int (v 81 7)) (C := RX6) (T := TX6) (N := 17) hx hb hts iX6 hown hK.1 hP 81 (gW_6 kd81) rfl 7 (by decide) f91 (fun _ h9 => h9) rfl dX6_read_167 ?_
        refine lv_iload_n hx hb dX6_read_170 rfl (lv_at hl 2 rfl) ?_
        refine lv_isub hx hb dX6_read_171 ?_
        refine lv_iload_n hx hb dX6_read_172 rfl (lv_at hl 1 rfl) ?_
        refine lv_iload_n hx hb dX6_read_173 rfl (lv_at hl 3 rfl) ?_
        refine g_bind hs (fun q_3 hq_3 hs => ?_)
        refine gCV_i (As := [.int w2, .int ((v 81 7) - w2), .int w1, .int w3]) (rest := []) ⟨hx, hb, hml, hown, hts⟩ (cX6_wordAt_c l D cy ad tL z0 hI n v u w2 ((v 81 7) - w2) w1 w3 q_3 hq_3) (cwV 4 hts gX6_read_X6_wordAt rfl rfl rfl (by decide +kernel) ⟨Nat.le_of_ble_eq_true rfl, Nat.le_of_ble_eq_true rfl⟩) hK hP hS (va_recv hK.1 hP (ci := 6) (q0 := 81) rfl (gW_6 kd81)) hl.1 rfl rfl (Nat.le_of_ble_eq_true rfl) dX6_read_174 ⟨Nat.zero_le _, Nat.zero_le _⟩ (fun H locs hP hS => ?_)
        refine lv_istore (lv' := [(4, .int q_3), (0, .ref (ad 81)), (1, .int w1), (2, .int w2), (3, .int w3)]) hx hb dX6_read_177 hl (by decide) rfl (fun ls hl => ?_)
        refine lv_iload hx hb dX6_read_179 (lv_at hl 0 rfl) ?_
        refine lv_if_lt (tgt := 278) hx hb dX6_read_181 (by decide) (fun hc => ?_) (fun hc => ?_)
        · have hs := g_t hs hc
          refine lv_aload_n hx hb dX6_read_278 rfl (lv_at hl 1 rfl) ?_
          refine va_get (D := D) (ci := 6) (v := .int (v 81 7)) (C := RX6) (T := TX6) (N := 17) hx hb hts iX6 hown hK.1 hP 81 (gW_6 kd81) rfl 7 (by decide) f91 (fun _ h9 => h9) rfl dX6_read_279 ?_
          exact gRet_i hx hb hr hlocks hK hP hS (g_some2 hs) dX6_read_282
        · have hs := g_f hs hc
          refine lv_aload_n hx hb dX6_read_184 rfl (lv_at hl 1 rfl) ?_
          refine va_get (D := D) (ci := 6) (v := .ref (ad 88)) (C := RX6) (T := TX6) (N := 17) hx hb hts iX6 hown hK.1 hP 81 (gW_6 kd81) rfl 9 (by decide) f28 (fun _ h9 => h9) rfl dX6_read_185 ?_
          refine lv_aload_n hx hb dX6_read_188 rfl (lv_at hl 1 rfl) ?_
          refine va_get (D := D) (ci := 6) (v := .int (v 81 10)) (C := RX6) (T := TX6) (N := 17) hx hb hts iX6 hown hK.1 hP 81 (gW_6 kd81) rfl 10 (by decide) f84 (fun _ h9 => h9) rfl dX6_read_189 ?_
          refine lv_iload hx hb dX6_read_192 (lv_at hl 0 rfl) ?_
          refine g_chk hs (fun hc hs => ?_)
          refine va_iast hx hb hK.1 hP (gD hI) hS 88 0 (gW_19 kd88) rfl hc dX6_read_194 (fun H locs hP _ hS => ?_)
          refine g_let hs (fun v_4 ev_4 hs => ?_)
          have hP : va_P D vwCl (gW cy ad v_4 u) H := gPset ((gS_19 kd88 (v 81 10).toNatClampNeg q_3).trans (congrArg (fun z => gW cy ad z u) ev_4.symm)) hP
          refine lv_aload_n hx hb dX6_read_195 rfl (lv_at hl 1 rfl) ?_
          refine lv_dup hx hb dX6_read_196 rfl ?_
          refine va_get (D := D) (ci := 6) (v := .int (v_4 81 10)) (C := RX6) (T := TX6) (N := 17) hx hb hts iX6 hown hK.1 hP 81 (gW_6 kd81) rfl 10 (by decide) f84 (fun _ h9 => h9) rfl dX6_read_197 ?_
          refine lv_iconst (v := 1) hx hb dX6_read_200 (by decide) ?_
          refine lv_iadd hx hb dX6_read_201 ?_
          refine va_put (D := D) (ci := 6) (v := .int ((v_4 81 10) + 1)) (ty := .int) (C := RX6) (T := TX6) (N := 17) hx hb hts iX6 tyX6 tyX6_ok nmX6 hown hK.1 hP (gD hI) hS 81 (gW_6 kd81) rfl 10 (by decide) f84 (fun _ h9 => h9) rfl (by decide +kernel) rfl rfl (Nat.le_of_ble_eq_true rfl) dX6_read_202 (fun H locs hP _ hS => ?_)
          refine g_let hs (fun v_5 ev_5 hs => ?_)
          have hP : va_P D vwCl (gW cy ad v_5 u) H := gPset ((gS_6_10 kd81 ((v_4 81 10) + 1)).trans (congrArg (fun z => gW cy ad z u) ev_5.symm)) hP
          refine lv_aload_n hx hb dX6_read_205 rfl (lv_at hl 1 rfl) ?_
          refine lv_iload_n hx hb dX6_read_206 rfl (lv_at hl 2 rfl) ?_
          refine lv_iload hx hb dX6_read_207 (lv_at hl 0 rfl) ?_
          refine lv_iload_n hx hb dX6_read_209 rfl (lv_at hl 4 rfl) ?_
          refine g_bind hs (fun q_6 hq_6 hs => ?_)
          refine gCV_i (As := [.int w1, .int q_3, .int w3]) (rest := []) ⟨hx, hb, hml, hown, hts⟩ (cX6_next_c l D cy ad tL z0 hI v_5 u w1 q_3 w3 q_6 hq_6) (cwV 3 hts gX6_read_X6_next rfl rfl rfl (by decide +kernel) ⟨Nat.le_of_ble_eq_true rfl, Nat.le_of_ble_eq_true rfl⟩) hK hP hS (va_recv hK.1 hP (ci := 6) (q0 := 81) rfl (gW_6 kd81)) hl.1 rfl rfl (Nat.le_of_ble_eq_true rfl) dX6_read_210 ⟨Nat.zero_le _, Nat.zero_le _⟩ (fun H locs hP hS => ?_)
          refine lv_istore (lv' := [(5, .int q_6), (4, .int q_3), (0, .ref (ad 81)), (1, .int w1), (2, .int w2), (3, .int w3)]) hx hb dX6_read_213 hl (by decide) rfl (fun ls hl => ?_)
          refine lv_iload_n hx hb dX6_read_215 rfl (lv_at hl 5 rfl) ?_
          refine lv_if_ne (tgt := 226) hx hb dX6_read_216 (by decide) (fun hc => ?_) (fun hc => ?_)
          · have hs := g_f hs hc
            refine lv_iconst (v := 1) hx hb dX6_read_226 (by decide) ?_
            refine lv_goto (tgt := 231) hx hb dX6_read_227 (by decide) ?_
            exact hJ_231 v_5 q_6 1 _ _ _ hP hS (lv_sub hl [2, 0] rfl) hs
          · have hs := g_t hs hc
            refine lv_iload hx hb dX6_read_219 (lv_at hl 1 rfl) ?_
            refine lv_bipush (v := 12) hx hb dX6_read_221 (by decide) ?_
            refine lv_icmp_ne (tgt := 230) hx hb dX6_read_223 (by decide) (fun hc => ?_) (fun hc => ?_)
            · have hs := g_f hs hc
              refine lv_iconst (v := 0) hx hb dX6_read_230 (by decide) ?_
              exact hJ_231 v_5 q_6 0 _ _ _ hP hS (lv_sub hl [2, 0] rfl) hs
            · have hs := g_t hs hc
              refine lv_iconst (v := 1) hx hb dX6_read_226 (by decide) ?_
              refine lv_goto (tgt := 231) hx hb dX6_read_227 (by decide) ?_
              exact hJ_231 v_5 q_6 1 _ _ _ hP hS (lv_sub hl [2, 0] rfl) hs
      · have hs := g_f hs hc
        refine lv_aload_n hx hb dX6_read_28 rfl (lv_at hl 0 rfl) ?_
        refine va_get (D := D) (ci := 6) (v := .ref (ad 87)) (C := RX6) (T := TX6) (N := 17) hx hb hts iX6 hown hK.1 hP 81 (gW_6 kd81) rfl 6 (by decide) f25 (fun _ h9 => h9) rfl dX6_read_29 ?_
        refine lv_iload hx hb dX6_read_32 (lv_at hl 4 rfl) ?_
        refine g_chk hs (fun hc hs => ?_)
        refine va_iald hx hb hK.1 hP 87 0 (gW_18 kd87) rfl hc dX6_read_34 ?_
        refine lv_bipush (v := 32) hx hb dX6_read_35 (by decide) ?_
        refine lv_icmp_ne (tgt := 139) hx hb dX6_read_37 (by decide) (fun hc => ?_) (fun hc => ?_)
        · have hs := g_f hs hc
          refine lv_aload_n hx hb dX6_read_139 rfl (lv_at hl 0 rfl) ?_
          refine lv_iload_n hx hb dX6_read_140 rfl (lv_at hl 2 rfl) ?_
          refine lv_iload hx hb dX6_read_141 (lv_at hl 4 rfl) ?_
          refine lv_iconst (v := 1) hx hb dX6_read_143 (by decide) ?_
          refine lv_iadd hx hb dX6_read_144 ?_
          refine lv_iload_n hx hb dX6_read_145 rfl (lv_at hl 2 rfl) ?_
          refine lv_isub hx hb dX6_read_146 ?_
          refine lv_iload_n hx hb dX6_read_147 rfl (lv_at hl 1 rfl) ?_
          refine lv_iload_n hx hb dX6_read_148 rfl (lv_at hl 3 rfl) ?_
          refine g_bind hs (fun q_14 hq_14 hs => ?_)
          refine gCV_i (As := [.int w2, .int ((w4 + 1) - w2), .int w1, .int w3]) (rest := []) ⟨hx, hb, hml, hown, hts⟩ (cX6_canBegin_c l D cy ad tL z0 hI n v u w2 ((w4 + 1) - w2) w1 w3 q_14 hq_14) (cwV 4 hts gX6_read_X6_canBegin rfl rfl rfl (by decide +kernel) ⟨Nat.le_of_ble_eq_true rfl, Nat.le_of_ble_eq_true rfl⟩) hK hP hS (va_recv hK.1 hP (ci := 6) (q0 := 81) rfl (gW_6 kd81)) hl.1 rfl rfl (Nat.le_of_ble_eq_true rfl) dX6_read_149 ⟨Nat.zero_le _, Nat.zero_le _⟩ (fun H locs hP hS => ?_)
          refine lv_if_ne (tgt := 158) hx hb dX6_read_152 (by decide) (fun hc => ?_) (fun hc => ?_)
          · have hs := g_f hs hc
            refine lv_iinc (v := w4 + 1) (lv' := [(4, .int (w4 + 1)), (0, .ref (ad 81)), (1, .int w1), (2, .int w2), (3, .int w3)]) hx hb dX6_read_158 hl (k := 4) rfl rfl (by decide) rfl (fun ls hl => ?_)
            refine lv_goto (tgt := 19) hx hb dX6_read_161 (by decide) ?_
            exact ih v w1 w2 w3 (w4 + 1) _ _ _ hP hS (lv_sub hl [1, 2, 3, 4, 0] rfl) hs
          · have hs := g_t hs hc
            refine lv_iload hx hb dX6_read_155 (lv_at hl 4 rfl) ?_
            exact gRet_i hx hb hr hlocks hK hP hS (g_some2 hs) dX6_read_157
        · have hs := g_t hs hc
          refine lv_aload_n hx hb dX6_read_40 rfl (lv_at hl 0 rfl) ?_
          refine lv_iload_n hx hb dX6_read_41 rfl (lv_at hl 2 rfl) ?_
          refine lv_iload hx hb dX6_read_42 (lv_at hl 4 rfl) ?_
          refine lv_iload_n hx hb dX6_read_44 rfl (lv_at hl 2 rfl) ?_
          refine lv_isub hx hb dX6_read_45 ?_
          refine lv_iload_n hx hb dX6_read_46 rfl (lv_at hl 1 rfl) ?_
          refine lv_iload_n hx hb dX6_read_47 rfl (lv_at hl 3 rfl) ?_
          refine g_bind hs (fun q_15 hq_15 hs => ?_)
          refine gCV_i (As := [.int w2, .int (w4 - w2), .int w1, .int w3]) (rest := []) ⟨hx, hb, hml, hown, hts⟩ (cX6_wordAt_c l D cy ad tL z0 hI n v u w2 (w4 - w2) w1 w3 q_15 hq_15) (cwV 4 hts gX6_read_X6_wordAt rfl rfl rfl (by decide +kernel) ⟨Nat.le_of_ble_eq_true rfl, Nat.le_of_ble_eq_true rfl⟩) hK hP hS (va_recv hK.1 hP (ci := 6) (q0 := 81) rfl (gW_6 kd81)) hl.1 rfl rfl (Nat.le_of_ble_eq_true rfl) dX6_read_48 ⟨Nat.zero_le _, Nat.zero_le _⟩ (fun H locs hP hS => ?_)
          refine lv_istore (lv' := [(5, .int q_15), (0, .ref (ad 81)), (1, .int w1), (2, .int w2), (3, .int w3), (4, .int w4)]) hx hb dX6_read_51 hl (by decide) rfl (fun ls hl => ?_)
          refine lv_iload hx hb dX6_read_53 (lv_at hl 0 rfl) ?_
          refine lv_if_ge (tgt := 62) hx hb dX6_read_55 (by decide) (fun hc => ?_) (fun hc => ?_)
          · have hs := g_t hs hc
            refine lv_aload_n hx hb dX6_read_62 rfl (lv_at hl 1 rfl) ?_
            refine lv_iload_n hx hb dX6_read_63 rfl (lv_at hl 2 rfl) ?_
            refine lv_iload hx hb dX6_read_64 (lv_at hl 0 rfl) ?_
            refine lv_iload_n hx hb dX6_read_66 rfl (lv_at hl 4 rfl) ?_
            refine g_bind hs (fun q_16 hq_16 hs => ?_)
            refine gCV_i (As := [.int w1, .int q_15, .int w3]) (rest := []) ⟨hx, hb, hml, hown, hts⟩ (cX6_next_c l D cy ad tL z0 hI v u w1 q_15 w3 q_16 hq_16) (cwV 3 hts gX6_read_X6_next rfl rfl rfl (by decide +kernel) ⟨Nat.le_of_ble_eq_true rfl, Nat.le_of_ble_eq_true rfl⟩) hK hP hS (va_recv hK.1 hP (ci := 6) (q0 := 81) rfl (gW_6 kd81)) hl.1 rfl rfl (Nat.le_of_ble_eq_true rfl) dX6_read_67 ⟨Nat.zero_le _, Nat.zero_le _⟩ (fun H locs hP hS => ?_)
            exact hJ_70 v w3 w4 q_15 q_16 _ _ _ hP hS (lv_sub hl [1, 4, 5, 0] rfl) hs
          · have hs := g_f hs hc
            refine lv_iconst (v := (-1)) hx hb dX6_read_58 (by decide) ?_
            refine lv_goto (tgt := 70) hx hb dX6_read_59 (by decide) ?_
            exact hJ_70 v w3 w4 q_15 ((-1)) _ _ _ hP hS (lv_sub hl [1, 4, 5, 0] rfl) hs
  unfold sX6_read at hs
  refine lv_iconst (v := 0) hx hb dX6_read_0 (by decide) ?_
  refine lv_istore_n (lv' := [(1, .int 0), (0, .ref (ad 81))]) hx hb dX6_read_1 rfl hl (by decide) rfl (fun ls hl => ?_)
  refine lv_iconst (v := 0) hx hb dX6_read_2 (by decide) ?_
  refine lv_istore_n (lv' := [(2, .int 0), (1, .int 0), (0, .ref (ad 81))]) hx hb dX6_read_3 rfl hl (by decide) rfl (fun ls hl => ?_)
  refine lv_iconst (v := 0) hx hb dX6_read_4 (by decide) ?_
  refine lv_istore_n (lv' := [(3, .int 0), (2, .int 0), (1, .int 0), (0, .ref (ad 81))]) hx hb dX6_read_5 rfl hl (by decide) rfl (fun ls hl => ?_)
  refine lv_aload_n hx hb dX6_read_6 rfl (lv_at hl 3 rfl) ?_
  refine lv_iconst (v := 0) hx hb dX6_read_7 (by decide) ?_
  refine va_put (D := D) (ci := 6) (v := .int 0) (ty := .int) (C := RX6) (T := TX6) (N := 17) hx hb hts iX6 tyX6 tyX6_ok nmX6 hown hK.1 hP (gD hI) hS 81 (gW_6 kd81) rfl 10 (by decide) f84 (fun _ h9 => h9) rfl (by decide +kernel) rfl rfl (Nat.le_of_ble_eq_true rfl) dX6_read_8 (fun H locs hP _ hS => ?_)
  refine g_let hs (fun v_1 ev_1 hs => ?_)
  have hP : va_P D vwCl (gW cy ad v_1 u) H := gPset ((gS_6_10 kd81 0).trans (congrArg (fun z => gW cy ad z u) ev_1.symm)) hP
  refine lv_aload_n hx hb dX6_read_11 rfl (lv_at hl 3 rfl) ?_
  refine lv_iconst (v := 0) hx hb dX6_read_12 (by decide) ?_
  refine va_put (D := D) (ci := 6) (v := .int 0) (ty := .boolean) (C := RX6) (T := TX6) (N := 17) hx hb hts iX6 tyX6 tyX6_ok nmX6 hown hK.1 hP (gD hI) hS 81 (gW_6 kd81) rfl 11 (by decide) f87 (fun _ h9 => h9) rfl (by decide +kernel) rfl rfl (Nat.le_of_ble_eq_true rfl) dX6_read_13 (fun H locs hP _ hS => ?_)
  refine g_let hs (fun v_2 ev_2 hs => ?_)
  have hP : va_P D vwCl (gW cy ad v_2 u) H := gPset ((gS_6_11 kd81 0).trans (congrArg (fun z => gW cy ad z u) ev_2.symm)) hP
  refine lv_iconst (v := 0) hx hb dX6_read_16 (by decide) ?_
  refine lv_istore (lv' := [(4, .int 0), (3, .int 0), (2, .int 0), (1, .int 0), (0, .ref (ad 81))]) hx hb dX6_read_17 hl (by decide) rfl (fun ls hl => ?_)
  exact hL_19 n v_2 0 0 0 0 _ _ _ hP hS (lv_sub hl [4, 3, 2, 1, 0] rfl) hs
set_option maxHeartbeats 4000000 in
set_option maxRecDepth 100000 in
theorem cX6_word_c (l : Launch) (D : va_G) (cy : Nat → ClassId) (ad : Nat → Nat) (tL z0 : Nat) (hI : gI z0 ad) (v : gV) (u : Int64) (x1 : Int32) (r0 : Int32) (hs : sX6_word v x1 = some r0) : Met l yX6_word wsX6_word ({ frames := 0, cells := 0, slots := 0, locals := 0 } : Room) (gPc D cy ad tL z0 v u [.ref (ad 81), .int x1]) (gQi D cy ad tL z0 v u r0) 0 0 (gA z0) := by
  refine Met.ofW (cc := cX6_word) (maxL := 2) (ret := (some .int)) (by decide) rfl ?_
  intro p e s m args below meth c s₁ B hml hv
  obtain ⟨rfl, hB0⟩ := hv
  have hP : va_P D vwCl (gW cy ad v u) s.heap := hB0.1
  have hK : gK D cy tL z0 s s.heap := hB0.2
  have hx := B.exec
  have hb := B.bytes
  have hr := B.returns
  have hts := atoms_spec (ws := wsX6_word) B.pre
  have hown : s.vm.findClass RX6 = some m.cls := findClass_of_methodNamed B.named
  have hlocks := B.notSynchronized
  have hS : va_S (gA z0) s.heap s.heap [] := va_S.rf
  have hl := lv_entry ([.ref (ad 81), .int x1]) (n := 2) (Nat.le_of_ble_eq_true rfl)
  rw [lg_entry_eq]
  generalize (lg_sl ([.ref (ad 81), .int x1]) ++ List.replicate (2 - (lg_sl ([.ref (ad 81), .int x1])).length) Slot.unset).toArray = ls at hl ⊢
  have hl : lv_has ls 2 [(0, .ref (ad 81)), (1, .int x1)] := hl
  have iX6 := (show ∀ w ∈ u_ws RX6 TX6 17, w ∈ wsX6_word by decide +kernel)
  have f16 := hts (.fieldLink RX6 16 "AdventureParserModel" "s" "[I") (by decide +kernel)
  clear hB0
  unfold sX6_word at hs
  refine lv_iload_n hx hb dX6_word_0 rfl (lv_at hl 1 rfl) ?_
  refine lv_aload_n hx hb dX6_word_1 rfl (lv_at hl 0 rfl) ?_
  refine va_get (D := D) (ci := 6) (v := .ref (ad 84)) (C := RX6) (T := TX6) (N := 17) hx hb hts iX6 hown hK.1 hP 81 (gW_6 kd81) rfl 2 (by decide) f16 (fun _ h9 => h9) rfl dX6_word_2 ?_
  refine lv_bipush (v := 58) hx hb dX6_word_5 (by decide) ?_
  refine va_iald (i := 58) hx hb hK.1 hP 84 0 (gW_16 kd84) rfl (by unfold vp_in; decide) dX6_word_7 ?_
  refine lv_icmp_ge (tgt := 23) hx hb dX6_word_8 (by decide) (fun hc => ?_) (fun hc => ?_)
  · have hs := g_t hs hc
    refine lv_iconst (v := (-1)) hx hb dX6_word_23 (by decide) ?_
    exact gRet_i hx hb hr hlocks hK hP hS ⟨g_some hs, rfl⟩ dX6_word_24
  · have hs := g_f hs hc
    refine lv_aload_n hx hb dX6_word_11 rfl (lv_at hl 0 rfl) ?_
    refine va_get (D := D) (ci := 6) (v := .ref (ad 84)) (C := RX6) (T := TX6) (N := 17) hx hb hts iX6 hown hK.1 hP 81 (gW_6 kd81) rfl 2 (by decide) f16 (fun _ h9 => h9) rfl dX6_word_12 ?_
    refine lv_bipush (v := 59) hx hb dX6_word_15 (by decide) ?_
    refine lv_iload_n hx hb dX6_word_17 rfl (lv_at hl 1 rfl) ?_
    refine lv_iadd hx hb dX6_word_18 ?_
    refine g_chk hs (fun hc hs => ?_)
    refine va_iald hx hb hK.1 hP 84 0 (gW_16 kd84) rfl hc dX6_word_19 ?_
    refine lv_goto (tgt := 24) hx hb dX6_word_20 (by decide) ?_
    exact gRet_i hx hb hr hlocks hK hP hS ⟨g_some hs, rfl⟩ dX6_word_24
set_option maxHeartbeats 4000000 in
set_option maxRecDepth 100000 in
theorem cX6_readDescription_c (l : Launch) (D : va_G) (cy : Nat → ClassId) (ad : Nat → Nat) (tL z0 : Nat) (hI : gI z0 ad) (v : gV) (u : Int64) (v1 : gV) (hs : sX6_readDescription v = some v1) : Met l yX6_readDescription wsX6_readDescription ({ frames := 2, cells := 0, slots := 0, locals := 42 } : Room) (gPc D cy ad tL z0 v u [.ref (ad 81)]) (gQv D cy ad tL z0 v1 u) 0 0 (gA z0) := by
  refine Met.ofW (cc := cX6_readDescription) (maxL := 1) (ret := none) (by decide) rfl ?_
  intro p e s m args below meth c s₁ B hml hv
  obtain ⟨rfl, hB0⟩ := hv
  have hP : va_P D vwCl (gW cy ad v u) s.heap := hB0.1
  have hK : gK D cy tL z0 s s.heap := hB0.2
  have hx := B.exec
  have hb := B.bytes
  have hr := B.returns
  have hts := atoms_spec (ws := wsX6_readDescription) B.pre
  have hown : s.vm.findClass RX6 = some m.cls := findClass_of_methodNamed B.named
  have hlocks := B.notSynchronized
  have hS : va_S (gA z0) s.heap s.heap [] := va_S.rf
  have hl := lv_entry ([.ref (ad 81)]) (n := 1) (Nat.le_of_ble_eq_true rfl)
  rw [lg_entry_eq]
  generalize (lg_sl ([.ref (ad 81)]) ++ List.replicate (1 - (lg_sl ([.ref (ad 81)])).length) Slot.unset).toArray = ls at hl ⊢
  have hl : lv_has ls 1 [(0, .ref (ad 81))] := hl
  have iX6 := (show ∀ w ∈ u_ws RX6 TX6 17, w ∈ wsX6_readDescription by decide +kernel)
  have f106 := hts (.fieldLink RX6 106 "AdventureParserModel" "place" "I") (by decide +kernel)
  have f112 := hts (.fieldLink RX6 112 "AdventureParserModel" "adjectiveAt" "I") (by decide +kernel)
  have f115 := hts (.fieldLink RX6 115 "AdventureParserModel" "nounAt" "I") (by decide +kernel)
  clear hB0
  have hJ_77 : ∀ (v : gV) (t1 : Int32) (t2 : Int32) (H : Heap) (locs : List Loc) (ls : Array Slot), va_P D vwCl (gW cy ad v u) H → va_S (gA z0) s.heap H locs → lv_has ls 1 [(0, .ref (ad 81))] → sX6_readDescription_77 v t1 t2 = some v1 → W p l e (headSpec wsX6_readDescription ({ frames := 2, cells := 0, slots := 0, locals := 42 } : Room)).room s m ([.ref (ad 81)] : List Value).toArray below meth c H locs 0 0 (MQ below (gQv D cy ad tL z0 v1 u) ([.ref (ad 81)] : List Value).toArray s 0 0 (gA z0)) (F0 m 77 ls [.int t2, .int t1, .ref (ad 81)]) := by
    intro v t1 t2 H locs ls hP hS hl hs
    unfold sX6_readDescription_77 at hs
    refine lv_iadd hx hb dX6_readDescription_77 ?_
    refine va_put (D := D) (ci := 6) (v := .int (t1 + t2)) (ty := .int) (C := RX6) (T := TX6) (N := 17) hx hb hts iX6 tyX6 tyX6_ok nmX6 hown hK.1 hP (gD hI) hS 81 (gW_6 kd81) rfl 12 (by decide) f106 (fun _ h9 => h9) rfl (by decide +kernel) rfl rfl (Nat.le_of_ble_eq_true rfl) dX6_readDescription_78 (fun H locs hP _ hS => ?_)
    refine g_let hs (fun v_6 ev_6 hs => ?_)
    have hP : va_P D vwCl (gW cy ad v_6 u) H := gPset ((gS_6_12 kd81 (t1 + t2)).trans (congrArg (fun z => gW cy ad z u) ev_6.symm)) hP
    refine lv_aload_n hx hb dX6_readDescription_81 rfl (lv_at hl 0 rfl) ?_
    refine lv_aload_n hx hb dX6_readDescription_82 rfl (lv_at hl 0 rfl) ?_
    refine lv_aload_n hx hb dX6_readDescription_83 rfl (lv_at hl 0 rfl) ?_
    refine va_get (D := D) (ci := 6) (v := .int (v_6 81 12)) (C := RX6) (T := TX6) (N := 17) hx hb hts iX6 hown hK.1 hP 81 (gW_6 kd81) rfl 12 (by decide) f106 (fun _ h9 => h9) rfl dX6_readDescription_84 ?_
    refine g_bind hs (fun q_7 hq_7 hs => ?_)
    refine gCV_i (As := [.int (v_6 81 12)]) (rest := [.ref (ad 81)]) ⟨hx, hb, hml, hown, hts⟩ (cX6_word_c l D cy ad tL z0 hI v_6 u (v_6 81 12) q_7 hq_7) (cwV 1 hts gX6_readDescription_X6_word rfl rfl rfl (by decide +kernel) ⟨Nat.le_of_ble_eq_true rfl, Nat.le_of_ble_eq_true rfl⟩) hK hP hS (va_recv hK.1 hP (ci := 6) (q0 := 81) rfl (gW_6 kd81)) hl.1 rfl rfl (Nat.le_of_ble_eq_true rfl) dX6_readDescription_87 ⟨Nat.zero_le _, Nat.zero_le _⟩ (fun H locs hP hS => ?_)
    refine va_put (D := D) (ci := 6) (v := .int q_7) (ty := .int) (C := RX6) (T := TX6) (N := 17) hx hb hts iX6 tyX6 tyX6_ok nmX6 hown hK.1 hP (gD hI) hS 81 (gW_6 kd81) rfl 15 (by decide) f115 (fun _ h9 => h9) rfl (by decide +kernel) rfl rfl (Nat.le_of_ble_eq_true rfl) dX6_readDescription_90 (fun H locs hP _ hS => ?_)
    refine g_let hs (fun v_8 ev_8 hs => ?_)
    have hP : va_P D vwCl (gW cy ad v_8 u) H := gPset ((gS_6_15 kd81 q_7).trans (congrArg (fun z => gW cy ad z u) ev_8.symm)) hP
    refine lv_aload_n hx hb dX6_readDescription_93 rfl (lv_at hl 0 rfl) ?_
    refine lv_dup hx hb dX6_readDescription_94 rfl ?_
    refine va_get (D := D) (ci := 6) (v := .int (v_8 81 12)) (C := RX6) (T := TX6) (N := 17) hx hb hts iX6 hown hK.1 hP 81 (gW_6 kd81) rfl 12 (by decide) f106 (fun _ h9 => h9) rfl dX6_readDescription_95 ?_
    refine lv_iconst (v := 1) hx hb dX6_readDescription_98 (by decide) ?_
    refine lv_iadd hx hb dX6_readDescription_99 ?_
    refine va_put (D := D) (ci := 6) (v := .int ((v_8 81 12) + 1)) (ty := .int) (C := RX6) (T := TX6) (N := 17) hx hb hts iX6 tyX6 tyX6_ok nmX6 hown hK.1 hP (gD hI) hS 81 (gW_6 kd81) rfl 12 (by decide) f106 (fun _ h9 => h9) rfl (by decide +kernel) rfl rfl (Nat.le_of_ble_eq_true rfl) dX6_readDescription_100 (fun H locs hP _ hS => ?_)
    refine g_let hs (fun v_9 ev_9 hs => ?_)
    have hP : va_P D vwCl (gW cy ad v_9 u) H := gPset ((gS_6_12 kd81 ((v_8 81 12) + 1)).trans (congrArg (fun z => gW cy ad z u) ev_9.symm)) hP
    exact gRet_v hx hb hr hlocks hK hP hS (g_some hs) dX6_readDescription_103
  have hJ_57 : ∀ (v : gV) (t1 : Int32) (H : Heap) (locs : List Loc) (ls : Array Slot), va_P D vwCl (gW cy ad v u) H → va_S (gA z0) s.heap H locs → lv_has ls 1 [(0, .ref (ad 81))] → sX6_readDescription_57 v t1 = some v1 → W p l e (headSpec wsX6_readDescription ({ frames := 2, cells := 0, slots := 0, locals := 42 } : Room)).room s m ([.ref (ad 81)] : List Value).toArray below meth c H locs 0 0 (MQ below (gQv D cy ad tL z0 v1 u) ([.ref (ad 81)] : List Value).toArray s 0 0 (gA z0)) (F0 m 57 ls [.int t1, .ref (ad 81)]) := by
    intro v t1 H locs ls hP hS hl hs
    unfold sX6_readDescription_57 at hs
    refine va_put (D := D) (ci := 6) (v := .int t1) (ty := .int) (C := RX6) (T := TX6) (N := 17) hx hb hts iX6 tyX6 tyX6_ok nmX6 hown hK.1 hP (gD hI) hS 81 (gW_6 kd81) rfl 16 (by decide) f112 (fun _ h9 => h9) rfl (by decide +kernel) rfl rfl (Nat.le_of_ble_eq_true rfl) dX6_readDescription_57 (fun H locs hP _ hS => ?_)
    refine g_let hs (fun v_5 ev_5 hs => ?_)
    have hP : va_P D vwCl (gW cy ad v_5 u) H := gPset ((gS_6_16 kd81 t1).trans (congrArg (fun z => gW cy ad z u) ev_5.symm)) hP
    refine lv_aload_n hx hb dX6_readDescription_60 rfl (lv_at hl 0 rfl) ?_
    refine lv_dup hx hb dX6_readDescription_61 rfl ?_
    refine va_get (D := D) (ci := 6) (v := .int (v_5 81 12)) (C := RX6) (T := TX6) (N := 17) hx hb hts iX6 hown hK.1 hP 81 (gW_6 kd81) rfl 12 (by decide) f106 (fun _ h9 => h9) rfl dX6_readDescription_62 ?_
    refine lv_aload_n hx hb dX6_readDescription_65 rfl (lv_at hl 0 rfl) ?_
    refine va_get (D := D) (ci := 6) (v := .int (v_5 81 16)) (C := RX6) (T := TX6) (N := 17) hx hb hts iX6 hown hK.1 hP 81 (gW_6 kd81) rfl 16 (by decide) f112 (fun _ h9 => h9) rfl dX6_readDescription_66 ?_
    refine lv_if_lt (tgt := 76) hx hb dX6_readDescription_69 (by decide) (fun hc => ?_) (fun hc => ?_)
    · have hs := g_t hs hc
      refine lv_iconst (v := 0) hx hb dX6_readDescription_76 (by decide) ?_
      exact hJ_77 v_5 (v_5 81 12) 0 _ _ _ hP hS (lv_sub hl [0] rfl) hs
    · have hs := g_f hs hc
      refine lv_iconst (v := 1) hx hb dX6_readDescription_72 (by decide) ?_
      refine lv_goto (tgt := 77) hx hb dX6_readDescription_73 (by decide) ?_
      exact hJ_77 v_5 (v_5 81 12) 1 _ _ _ hP hS (lv_sub hl [0] rfl) hs
  have hJ_23 : ∀ (v : gV) (t1 : Int32) (t2 : Int32) (H : Heap) (locs : List Loc) (ls : Array Slot), va_P D vwCl (gW cy ad v u) H → va_S (gA z0) s.heap H locs → lv_has ls 1 [(0, .ref (ad 81))] → sX6_readDescription_23 v t1 t2 = some v1 → W p l e (headSpec wsX6_readDescription ({ frames := 2, cells := 0, slots := 0, locals := 42 } : Room)).room s m ([.ref (ad 81)] : List Value).toArray below meth c H locs 0 0 (MQ below (gQv D cy ad tL z0 v1 u) ([.ref (ad 81)] : List Value).toArray s 0 0 (gA z0)) (F0 m 23 ls [.int t2, .int t1, .ref (ad 81)]) := by
    intro v t1 t2 H locs ls hP hS hl hs
    unfold sX6_readDescription_23 at hs
    refine lv_iadd hx hb dX6_readDescription_23 ?_
    refine va_put (D := D) (ci := 6) (v := .int (t1 + t2)) (ty := .int) (C := RX6) (T := TX6) (N := 17) hx hb hts iX6 tyX6 tyX6_ok nmX6 hown hK.1 hP (gD hI) hS 81 (gW_6 kd81) rfl 12 (by decide) f106 (fun _ h9 => h9) rfl (by decide +kernel) rfl rfl (Nat.le_of_ble_eq_true rfl) dX6_readDescription_24 (fun H locs hP _ hS => ?_)
    refine g_let hs (fun v_2 ev_2 hs => ?_)
    have hP : va_P D vwCl (gW cy ad v_2 u) H := gPset ((gS_6_12 kd81 (t1 + t2)).trans (congrArg (fun z => gW cy ad z u) ev_2.symm)) hP
    refine lv_aload_n hx hb dX6_readDescription_27 rfl (lv_at hl 0 rfl) ?_
    refine lv_aload_n hx hb dX6_readDescription_28 rfl (lv_at hl 0 rfl) ?_
    refine lv_aload_n hx hb dX6_readDescription_29 rfl (lv_at hl 0 rfl) ?_
    refine va_get (D := D) (ci := 6) (v := .int (v_2 81 12)) (C := RX6) (T := TX6) (N := 17) hx hb hts iX6 hown hK.1 hP 81 (gW_6 kd81) rfl 12 (by decide) f106 (fun _ h9 => h9) rfl dX6_readDescription_30 ?_
    refine g_bind hs (fun q_3 hq_3 hs => ?_)
    refine gCV_i (As := [.int (v_2 81 12)]) (rest := [.ref (ad 81)]) ⟨hx, hb, hml, hown, hts⟩ (cX6_word_c l D cy ad tL z0 hI v_2 u (v_2 81 12) q_3 hq_3) (cwV 1 hts gX6_readDescription_X6_word rfl rfl rfl (by decide +kernel) ⟨Nat.le_of_ble_eq_true rfl, Nat.le_of_ble_eq_true rfl⟩) hK hP hS (va_recv hK.1 hP (ci := 6) (q0 := 81) rfl (gW_6 kd81)) hl.1 rfl rfl (Nat.le_of_ble_eq_true rfl) dX6_readDescription_33 ⟨Nat.zero_le _, Nat.zero_le _⟩ (fun H locs hP hS => ?_)
    refine g_bind hs (fun q_4 hq_4 hs => ?_)
    refine gCS_i (As := [.int q_3]) (rest := [.ref (ad 81)]) ⟨hx, hb, hml, hown, hts⟩ (cX6_isAdjective_c l D cy ad tL z0 hI v_2 u q_3 q_4 hq_4) (va_cwS 1 hts gX6_readDescription_X6_isAdjective rfl rfl rfl (by decide +kernel) ⟨Nat.le_of_ble_eq_true rfl, Nat.le_of_ble_eq_true rfl⟩) hK hP hS hl.1 rfl rfl (Nat.le_of_ble_eq_true rfl) dX6_readDescription_36 ⟨Nat.zero_le _, Nat.zero_le _⟩ (fun H locs hP hS => ?_)
    refine lv_if_eq (tgt := 56) hx hb dX6_readDescription_39 (by decide) (fun hc => ?_) (fun hc => ?_)
    · have hs := g_t hs hc
      refine lv_iconst (v := (-1)) hx hb dX6_readDescription_56 (by decide) ?_
      exact hJ_57 v_2 ((-1)) _ _ _ hP hS (lv_sub hl [0] rfl) hs
    · have hs := g_f hs hc
      refine lv_aload_n hx hb dX6_readDescription_42 rfl (lv_at hl 0 rfl) ?_
      refine lv_aload_n hx hb dX6_readDescription_43 rfl (lv_at hl 0 rfl) ?_
      refine va_get (D := D) (ci := 6) (v := .int (v_2 81 12)) (C := RX6) (T := TX6) (N := 17) hx hb hts iX6 hown hK.1 hP 81 (gW_6 kd81) rfl 12 (by decide) f106 (fun _ h9 => h9) rfl dX6_readDescription_44 ?_
      refine g_bind hs (fun q_10 hq_10 hs => ?_)
      refine gCV_i (As := [.int (v_2 81 12)]) (rest := [.ref (ad 81)]) ⟨hx, hb, hml, hown, hts⟩ (cX6_word_c l D cy ad tL z0 hI v_2 u (v_2 81 12) q_10 hq_10) (cwV 1 hts gX6_readDescription_X6_word rfl rfl rfl (by decide +kernel) ⟨Nat.le_of_ble_eq_true rfl, Nat.le_of_ble_eq_true rfl⟩) hK hP hS (va_recv hK.1 hP (ci := 6) (q0 := 81) rfl (gW_6 kd81)) hl.1 rfl rfl (Nat.le_of_ble_eq_true rfl) dX6_readDescription_47 ⟨Nat.zero_le _, Nat.zero_le _⟩ (fun H locs hP hS => ?_)
      refine lv_bipush (v := 6) hx hb dX6_readDescription_50 (by decide) ?_
      refine lv_isub hx hb dX6_readDescription_52 ?_
      refine lv_goto (tgt := 57) hx hb dX6_readDescription_53 (by decide) ?_
      exact hJ_57 v_2 (q_10 - 6) _ _ _ hP hS (lv_sub hl [0] rfl) hs
  unfold sX6_readDescription at hs
  refine lv_aload_n hx hb dX6_readDescription_0 rfl (lv_at hl 0 rfl) ?_
  refine lv_dup hx hb dX6_readDescription_1 rfl ?_
  refine va_get (D := D) (ci := 6) (v := .int (v 81 12)) (C := RX6) (T := TX6) (N := 17) hx hb hts iX6 hown hK.1 hP 81 (gW_6 kd81) rfl 12 (by decide) f106 (fun _ h9 => h9) rfl dX6_readDescription_2 ?_
  refine lv_aload_n hx hb dX6_readDescription_5 rfl (lv_at hl 0 rfl) ?_
  refine lv_aload_n hx hb dX6_readDescription_6 rfl (lv_at hl 0 rfl) ?_
  refine va_get (D := D) (ci := 6) (v := .int (v 81 12)) (C := RX6) (T := TX6) (N := 17) hx hb hts iX6 hown hK.1 hP 81 (gW_6 kd81) rfl 12 (by decide) f106 (fun _ h9 => h9) rfl dX6_readDescription_7 ?_
  refine g_bind hs (fun q_1 hq_1 hs => ?_)
  refine gCV_i (As := [.int (v 81 12)]) (rest := [.int (v 81 12), .ref (ad 81)]) ⟨hx, hb, hml, hown, hts⟩ (cX6_word_c l D cy ad tL z0 hI v u (v 81 12) q_1 hq_1) (cwV 1 hts gX6_readDescription_X6_word rfl rfl rfl (by decide +kernel) ⟨Nat.le_of_ble_eq_true rfl, Nat.le_of_ble_eq_true rfl⟩) hK hP hS (va_recv hK.1 hP (ci := 6) (q0 := 81) rfl (gW_6 kd81)) hl.1 rfl rfl (Nat.le_of_ble_eq_true rfl) dX6_readDescription_10 ⟨Nat.zero_le _, Nat.zero_le _⟩ (fun H locs hP hS => ?_)
  refine lv_bipush (v := 21) hx hb dX6_readDescription_13 (by decide) ?_
  refine lv_icmp_ne (tgt := 22) hx hb dX6_readDescription_15 (by decide) (fun hc => ?_) (fun hc => ?_)
  · have hs := g_f hs hc
    refine lv_iconst (v := 0) hx hb dX6_readDescription_22 (by decide) ?_
    exact hJ_23 v (v 81 12) 0 _ _ _ hP hS (lv_sub hl [0] rfl) hs
  · have hs := g_t hs hc
    refine lv_iconst (v := 1) hx hb dX6_readDescription_18 (by decide) ?_
    refine lv_goto (tgt := 23) hx hb dX6_readDescription_19 (by decide) ?_
    exact hJ_23 v (v 81 12) 1 _ _ _ hP hS (lv_sub hl [0] rfl) hs
set_option maxHeartbeats 4000000 in
set_option maxRecDepth 100000 in
theorem cX6_describe_c (l : Launch) (D : va_G) (cy : Nat → ClassId) (ad : Nat → Nat) (tL z0 : Nat) (hI : gI z0 ad) (n : Nat) (v : gV) (u : Int64) (x1 : Int32) (v1 : gV) (hs : sX6_describe n v x1 = some v1) : Met l yX6_describe wsX6_describe ({ frames := 5, cells := 0, slots := 0, locals := 110 } : Room) (gPc D cy ad tL z0 v u [.ref (ad 81), .int x1]) (gQv D cy ad tL z0 v1 u) 0 0 (gA z0) := by
  refine Met.ofW (cc := cX6_describe) (maxL := 5) (ret := none) (by decide) rfl ?_
  intro p e s m args below meth c s₁ B hml hv
  obtain ⟨rfl, hB0⟩ := hv
  have hP : va_P D vwCl (gW cy ad v u) s.heap := hB0.1
  have hK : gK D cy tL z0 s s.heap := hB0.2
  have hx := B.exec
  have hb := B.bytes
  have hr := B.returns
  have hts := atoms_spec (ws := wsX6_describe) B.pre
  have hown : s.vm.findClass RX6 = some m.cls := findClass_of_methodNamed B.named
  have hlocks := B.notSynchronized
  have hS : va_S (gA z0) s.heap s.heap [] := va_S.rf
  have hl := lv_entry ([.ref (ad 81), .int x1]) (n := 5) (Nat.le_of_ble_eq_true rfl)
  rw [lg_entry_eq]
  generalize (lg_sl ([.ref (ad 81), .int x1]) ++ List.replicate (5 - (lg_sl ([.ref (ad 81), .int x1])).length) Slot.unset).toArray = ls at hl ⊢
  have hl : lv_has ls 5 [(0, .ref (ad 81)), (1, .int x1)] := hl
  have iX6 := (show ∀ w ∈ u_ws RX6 TX6 17, w ∈ wsX6_describe by decide +kernel)
  have f106 := hts (.fieldLink RX6 106 "AdventureParserModel" "place" "I") (by decide +kernel)
  have f115 := hts (.fieldLink RX6 115 "AdventureParserModel" "nounAt" "I") (by decide +kernel)
  have f112 := hts (.fieldLink RX6 112 "AdventureParserModel" "adjectiveAt" "I") (by decide +kernel)
  have f16 := hts (.fieldLink RX6 16 "AdventureParserModel" "s" "[I") (by decide +kernel)
  have f131 := hts (.fieldLink RX6 131 "AdventureParserModel" "failure" "I") (by decide +kernel)
  have f140 := hts (.fieldLink RX6 140 "AdventureParserModel" "found" "I") (by decide +kernel)
  clear hB0
  unfold sX6_describe at hs
  refine lv_aload_n hx hb dX6_describe_0 rfl (lv_at hl 0 rfl) ?_
  refine va_get (D := D) (ci := 6) (v := .int (v 81 12)) (C := RX6) (T := TX6) (N := 17) hx hb hts iX6 hown hK.1 hP 81 (gW_6 kd81) rfl 12 (by decide) f106 (fun _ h9 => h9) rfl dX6_describe_1 ?_
  refine lv_istore_n (lv' := [(2, .int (v 81 12)), (0, .ref (ad 81)), (1, .int x1)]) hx hb dX6_describe_4 rfl hl (by decide) rfl (fun ls hl => ?_)
  refine lv_aload_n hx hb dX6_describe_5 rfl (lv_at hl 1 rfl) ?_
  refine g_bind hs (fun q_1 hq_1 hs => ?_)
  refine gCV_v (As := []) (rest := []) ⟨hx, hb, hml, hown, hts⟩ (cX6_readDescription_c l D cy ad tL z0 hI v u q_1 hq_1) (cwV 0 hts gX6_describe_X6_readDescription rfl rfl rfl (by decide +kernel) ⟨Nat.le_of_ble_eq_true rfl, Nat.le_of_ble_eq_true rfl⟩) hK hP hS (va_recv hK.1 hP (ci := 6) (q0 := 81) rfl (gW_6 kd81)) hl.1 rfl rfl (Nat.le_of_ble_eq_true rfl) dX6_describe_6 ⟨Nat.zero_le _, Nat.zero_le _⟩ (fun H locs hP hS => ?_)
  refine lv_aload_n hx hb dX6_describe_9 rfl (lv_at hl 1 rfl) ?_
  refine lv_aload_n hx hb dX6_describe_10 rfl (lv_at hl 1 rfl) ?_
  refine va_get (D := D) (ci := 6) (v := .int (q_1 81 15)) (C := RX6) (T := TX6) (N := 17) hx hb hts iX6 hown hK.1 hP 81 (gW_6 kd81) rfl 15 (by decide) f115 (fun _ h9 => h9) rfl dX6_describe_11 ?_
  refine lv_aload_n hx hb dX6_describe_14 rfl (lv_at hl 1 rfl) ?_
  refine va_get (D := D) (ci := 6) (v := .int (q_1 81 16)) (C := RX6) (T := TX6) (N := 17) hx hb hts iX6 hown hK.1 hP 81 (gW_6 kd81) rfl 16 (by decide) f112 (fun _ h9 => h9) rfl dX6_describe_15 ?_
  refine g_bind hs (fun q_2 hq_2 hs => ?_)
  refine gCV_i (As := [.int (q_1 81 15), .int (q_1 81 16)]) (rest := []) ⟨hx, hb, hml, hown, hts⟩ (cX6_fittingOnes_c l D cy ad tL z0 hI n q_1 u (q_1 81 15) (q_1 81 16) q_2 hq_2) (cwV 2 hts gX6_describe_X6_fittingOnes rfl rfl rfl (by decide +kernel) ⟨Nat.le_of_ble_eq_true rfl, Nat.le_of_ble_eq_true rfl⟩) hK hP hS (va_recv hK.1 hP (ci := 6) (q0 := 81) rfl (gW_6 kd81)) hl.1 rfl rfl (Nat.le_of_ble_eq_true rfl) dX6_describe_18 ⟨Nat.zero_le _, Nat.zero_le _⟩ (fun H locs hP hS => ?_)
  refine lv_aload_n hx hb dX6_describe_21 rfl (lv_at hl 1 rfl) ?_
  refine g_bind hs (fun q_3 hq_3 hs => ?_)
  refine gCV_i (As := []) (rest := [.int q_2]) ⟨hx, hb, hml, hown, hts⟩ (cX6_visibleOnes_c l D cy ad tL z0 hI n q_1 u q_3 hq_3) (cwV 0 hts gX6_describe_X6_visibleOnes rfl rfl rfl (by decide +kernel) ⟨Nat.le_of_ble_eq_true rfl, Nat.le_of_ble_eq_true rfl⟩) hK hP hS (va_recv hK.1 hP (ci := 6) (q0 := 81) rfl (gW_6 kd81)) hl.1 rfl rfl (Nat.le_of_ble_eq_true rfl) dX6_describe_22 ⟨Nat.zero_le _, Nat.zero_le _⟩ (fun H locs hP hS => ?_)
  refine lv_iand hx hb dX6_describe_25 ?_
  refine lv_istore_n (lv' := [(3, .int (q_2 &&& q_3)), (2, .int (v 81 12)), (0, .ref (ad 81)), (1, .int x1)]) hx hb dX6_describe_26 rfl hl (by decide) rfl (fun ls hl => ?_)
  refine lv_iload_n hx hb dX6_describe_27 rfl (lv_at hl 0 rfl) ?_
  refine lv_aload_n hx hb dX6_describe_28 rfl (lv_at hl 2 rfl) ?_
  refine lv_iload_n hx hb dX6_describe_29 rfl (lv_at hl 3 rfl) ?_
  refine g_bind hs (fun q_4 hq_4 hs => ?_)
  refine gCV_i (As := [.int x1]) (rest := [.int (q_2 &&& q_3)]) ⟨hx, hb, hml, hown, hts⟩ (cX6_suitableOnes_c l D cy ad tL z0 hI n q_1 u x1 q_4 hq_4) (cwV 1 hts gX6_describe_X6_suitableOnes rfl rfl rfl (by decide +kernel) ⟨Nat.le_of_ble_eq_true rfl, Nat.le_of_ble_eq_true rfl⟩) hK hP hS (va_recv hK.1 hP (ci := 6) (q0 := 81) rfl (gW_6 kd81)) hl.1 rfl rfl (Nat.le_of_ble_eq_true rfl) dX6_describe_30 ⟨Nat.zero_le _, Nat.zero_le _⟩ (fun H locs hP hS => ?_)
  refine lv_iand hx hb dX6_describe_33 ?_
  refine lv_istore (lv' := [(4, .int ((q_2 &&& q_3) &&& q_4)), (3, .int (q_2 &&& q_3)), (2, .int (v 81 12)), (0, .ref (ad 81)), (1, .int x1)]) hx hb dX6_describe_34 hl (by decide) rfl (fun ls hl => ?_)
  refine lv_iload_n hx hb dX6_describe_36 rfl (lv_at hl 1 rfl) ?_
  refine lv_if_ne (tgt := 49) hx hb dX6_describe_37 (by decide) (fun hc => ?_) (fun hc => ?_)
  · have hs := g_f hs hc
    refine lv_iload hx hb dX6_describe_49 (lv_at hl 0 rfl) ?_
    refine lv_if_ne (tgt := 63) hx hb dX6_describe_51 (by decide) (fun hc => ?_) (fun hc => ?_)
    · have hs := g_f hs hc
      refine lv_iload hx hb dX6_describe_63 (lv_at hl 0 rfl) ?_
      refine g_bind hs (fun q_5 hq_5 hs => ?_)
      refine gCS_i (As := [.int ((q_2 &&& q_3) &&& q_4)]) (rest := []) ⟨hx, hb, hml, hown, hts⟩ (cX6_size_c l D cy ad tL z0 hI n q_1 u ((q_2 &&& q_3) &&& q_4) q_5 hq_5) (va_cwS 1 hts gX6_describe_X6_size rfl rfl rfl (by decide +kernel) ⟨Nat.le_of_ble_eq_true rfl, Nat.le_of_ble_eq_true rfl⟩) hK hP hS hl.1 rfl rfl (Nat.le_of_ble_eq_true rfl) dX6_describe_65 ⟨Nat.zero_le _, Nat.zero_le _⟩ (fun H locs hP hS => ?_)
      refine lv_iconst (v := 1) hx hb dX6_describe_68 (by decide) ?_
      refine lv_icmp_ne (tgt := 84) hx hb dX6_describe_69 (by decide) (fun hc => ?_) (fun hc => ?_)
      · have hs := g_f hs hc
        refine lv_aload_n hx hb dX6_describe_84 rfl (lv_at hl 3 rfl) ?_
        refine va_get (D := D) (ci := 6) (v := .ref (ad 84)) (C := RX6) (T := TX6) (N := 17) hx hb hts iX6 hown hK.1 hP 81 (gW_6 kd81) rfl 2 (by decide) f16 (fun _ h9 => h9) rfl dX6_describe_85 ?_
        refine lv_bipush (v := 90) hx hb dX6_describe_88 (by decide) ?_
        refine lv_iload_n hx hb dX6_describe_90 rfl (lv_at hl 2 rfl) ?_
        refine lv_iadd hx hb dX6_describe_91 ?_
        refine g_chk hs (fun hc hs => ?_)
        refine va_iald hx hb hK.1 hP 84 0 (gW_16 kd84) rfl hc dX6_describe_92 ?_
        refine lv_if_le (tgt := 114) hx hb dX6_describe_93 (by decide) (fun hc => ?_) (fun hc => ?_)
        · have hs := g_t hs hc
          refine lv_aload_n hx hb dX6_describe_114 rfl (lv_at hl 3 rfl) ?_
          refine lv_iconst (v := (-1)) hx hb dX6_describe_115 (by decide) ?_
          refine va_put (D := D) (ci := 6) (v := .int ((-1))) (ty := .int) (C := RX6) (T := TX6) (N := 17) hx hb hts iX6 tyX6 tyX6_ok nmX6 hown hK.1 hP (gD hI) hS 81 (gW_6 kd81) rfl 13 (by decide) f131 (fun _ h9 => h9) rfl (by decide +kernel) rfl rfl (Nat.le_of_ble_eq_true rfl) dX6_describe_116 (fun H locs hP _ hS => ?_)
          refine g_let hs (fun v_6 ev_6 hs => ?_)
          have hP : va_P D vwCl (gW cy ad v_6 u) H := gPset ((gS_6_13 kd81 ((-1))).trans (congrArg (fun z => gW cy ad z u) ev_6.symm)) hP
          refine lv_aload_n hx hb dX6_describe_119 rfl (lv_at hl 3 rfl) ?_
          refine va_get (D := D) (ci := 6) (v := .ref (ad 84)) (C := RX6) (T := TX6) (N := 17) hx hb hts iX6 hown hK.1 hP 81 (gW_6 kd81) rfl 2 (by decide) f16 (fun _ h9 => h9) rfl dX6_describe_120 ?_
          refine lv_bipush (v := 56) hx hb dX6_describe_123 (by decide) ?_
          refine lv_iload_n hx hb dX6_describe_125 rfl (lv_at hl 2 rfl) ?_
          refine va_iast (i := 56) hx hb hK.1 hP (gD hI) hS 84 0 (gW_16 kd84) rfl (by unfold vp_in; decide) dX6_describe_126 (fun H locs hP _ hS => ?_)
          refine g_let hs (fun v_7 ev_7 hs => ?_)
          have hP : va_P D vwCl (gW cy ad v_7 u) H := gPset ((gS_16 kd84 56 (v 81 12)).trans (congrArg (fun z => gW cy ad z u) ev_7.symm)) hP
          refine lv_aload_n hx hb dX6_describe_127 rfl (lv_at hl 3 rfl) ?_
          refine va_get (D := D) (ci := 6) (v := .ref (ad 84)) (C := RX6) (T := TX6) (N := 17) hx hb hts iX6 hown hK.1 hP 81 (gW_6 kd81) rfl 2 (by decide) f16 (fun _ h9 => h9) rfl dX6_describe_128 ?_
          refine lv_bipush (v := 57) hx hb dX6_describe_131 (by decide) ?_
          refine lv_iload hx hb dX6_describe_133 (lv_at hl 0 rfl) ?_
          refine va_iast (i := 57) hx hb hK.1 hP (gD hI) hS 84 0 (gW_16 kd84) rfl (by unfold vp_in; decide) dX6_describe_135 (fun H locs hP _ hS => ?_)
          refine g_let hs (fun v_8 ev_8 hs => ?_)
          have hP : va_P D vwCl (gW cy ad v_8 u) H := gPset ((gS_16 kd84 57 ((q_2 &&& q_3) &&& q_4)).trans (congrArg (fun z => gW cy ad z u) ev_8.symm)) hP
          exact gRet_v hx hb hr hlocks hK hP hS (g_some hs) dX6_describe_136
        · have hs := g_f hs hc
          refine lv_aload_n hx hb dX6_describe_96 rfl (lv_at hl 3 rfl) ?_
          refine lv_aload_n hx hb dX6_describe_97 rfl (lv_at hl 3 rfl) ?_
          refine va_get (D := D) (ci := 6) (v := .ref (ad 84)) (C := RX6) (T := TX6) (N := 17) hx hb hts iX6 hown hK.1 hP 81 (gW_6 kd81) rfl 2 (by decide) f16 (fun _ h9 => h9) rfl dX6_describe_98 ?_
          refine lv_bipush (v := 90) hx hb dX6_describe_101 (by decide) ?_
          refine lv_iload_n hx hb dX6_describe_103 rfl (lv_at hl 2 rfl) ?_
          refine lv_iadd hx hb dX6_describe_104 ?_
          refine g_chk hs (fun hc hs => ?_)
          refine va_iald hx hb hK.1 hP 84 0 (gW_16 kd84) rfl hc dX6_describe_105 ?_
          refine lv_iconst (v := 1) hx hb dX6_describe_106 (by decide) ?_
          refine lv_isub hx hb dX6_describe_107 ?_
          refine va_put (D := D) (ci := 6) (v := .int ((q_1 84 (90 + (v 81 12)).toNatClampNeg) - 1)) (ty := .int) (C := RX6) (T := TX6) (N := 17) hx hb hts iX6 tyX6 tyX6_ok nmX6 hown hK.1 hP (gD hI) hS 81 (gW_6 kd81) rfl 14 (by decide) f140 (fun _ h9 => h9) rfl (by decide +kernel) rfl rfl (Nat.le_of_ble_eq_true rfl) dX6_describe_108 (fun H locs hP _ hS => ?_)
          refine g_let hs (fun v_9 ev_9 hs => ?_)
          have hP : va_P D vwCl (gW cy ad v_9 u) H := gPset ((gS_6_14 kd81 ((q_1 84 (90 + (v 81 12)).toNatClampNeg) - 1)).trans (congrArg (fun z => gW cy ad z u) ev_9.symm)) hP
          refine lv_goto (tgt := 136) hx hb dX6_describe_111 (by decide) ?_
          exact gRet_v hx hb hr hlocks hK hP hS (g_some hs) dX6_describe_136
      · have hs := g_t hs hc
        refine lv_aload_n hx hb dX6_describe_72 rfl (lv_at hl 3 rfl) ?_
        refine lv_iload hx hb dX6_describe_73 (lv_at hl 0 rfl) ?_
        refine g_bind hs (fun q_10 hq_10 hs => ?_)
        refine gCS_i (As := [.int ((q_2 &&& q_3) &&& q_4)]) (rest := [.ref (ad 81)]) ⟨hx, hb, hml, hown, hts⟩ (cX6_lowest_c l D cy ad tL z0 hI n q_1 u ((q_2 &&& q_3) &&& q_4) q_10 hq_10) (va_cwS 1 hts gX6_describe_X6_lowest rfl rfl rfl (by decide +kernel) ⟨Nat.le_of_ble_eq_true rfl, Nat.le_of_ble_eq_true rfl⟩) hK hP hS hl.1 rfl rfl (Nat.le_of_ble_eq_true rfl) dX6_describe_75 ⟨Nat.zero_le _, Nat.zero_le _⟩ (fun H locs hP hS => ?_)
        refine va_put (D := D) (ci := 6) (v := .int q_10) (ty := .int) (C := RX6) (T := TX6) (N := 17) hx hb hts iX6 tyX6 tyX6_ok nmX6 hown hK.1 hP (gD hI) hS 81 (gW_6 kd81) rfl 14 (by decide) f140 (fun _ h9 => h9) rfl (by decide +kernel) rfl rfl (Nat.le_of_ble_eq_true rfl) dX6_describe_78 (fun H locs hP _ hS => ?_)
        refine g_let hs (fun v_11 ev_11 hs => ?_)
        have hP : va_P D vwCl (gW cy ad v_11 u) H := gPset ((gS_6_14 kd81 q_10).trans (congrArg (fun z => gW cy ad z u) ev_11.symm)) hP
        refine lv_goto (tgt := 136) hx hb dX6_describe_81 (by decide) ?_
        exact gRet_v hx hb hr hlocks hK hP hS (g_some hs) dX6_describe_136
    · have hs := g_t hs hc
      refine lv_aload_n hx hb dX6_describe_54 rfl (lv_at hl 3 rfl) ?_
      refine lv_bipush (v := (-3)) hx hb dX6_describe_55 (by decide) ?_
      refine va_put (D := D) (ci := 6) (v := .int ((-3))) (ty := .int) (C := RX6) (T := TX6) (N := 17) hx hb hts iX6 tyX6 tyX6_ok nmX6 hown hK.1 hP (gD hI) hS 81 (gW_6 kd81) rfl 13 (by decide) f131 (fun _ h9 => h9) rfl (by decide +kernel) rfl rfl (Nat.le_of_ble_eq_true rfl) dX6_describe_57 (fun H locs hP _ hS => ?_)
      refine g_let hs (fun v_12 ev_12 hs => ?_)
      have hP : va_P D vwCl (gW cy ad v_12 u) H := gPset ((gS_6_13 kd81 ((-3))).trans (congrArg (fun z => gW cy ad z u) ev_12.symm)) hP
      refine lv_goto (tgt := 136) hx hb dX6_describe_60 (by decide) ?_
      exact gRet_v hx hb hr hlocks hK hP hS (g_some hs) dX6_describe_136
  · have hs := g_t hs hc
    refine lv_aload_n hx hb dX6_describe_40 rfl (lv_at hl 3 rfl) ?_
    refine lv_bipush (v := (-2)) hx hb dX6_describe_41 (by decide) ?_
    refine va_put (D := D) (ci := 6) (v := .int ((-2))) (ty := .int) (C := RX6) (T := TX6) (N := 17) hx hb hts iX6 tyX6 tyX6_ok nmX6 hown hK.1 hP (gD hI) hS 81 (gW_6 kd81) rfl 13 (by decide) f131 (fun _ h9 => h9) rfl (by decide +kernel) rfl rfl (Nat.le_of_ble_eq_true rfl) dX6_describe_43 (fun H locs hP _ hS => ?_)
    refine g_let hs (fun v_13 ev_13 hs => ?_)
    have hP : va_P D vwCl (gW cy ad v_13 u) H := gPset ((gS_6_13 kd81 ((-2))).trans (congrArg (fun z => gW cy ad z u) ev_13.symm)) hP
    refine lv_goto (tgt := 136) hx hb dX6_describe_46 (by decide) ?_
    exact gRet_v hx hb hr hlocks hK hP hS (g_some hs) dX6_describe_136
set_option maxHeartbeats 4000000 in
set_option maxRecDepth 100000 in
theorem cX6_resolveIt_c (l : Launch) (D : va_G) (cy : Nat → ClassId) (ad : Nat → Nat) (tL z0 : Nat) (hI : gI z0 ad) (n : Nat) (v : gV) (u : Int64) (x1 : Int32) (v1 : gV) (hs : sX6_resolveIt n v x1 = some v1) : Met l yX6_resolveIt wsX6_resolveIt ({ frames := 5, cells := 0, slots := 0, locals := 110 } : Room) (gPc D cy ad tL z0 v u [.ref (ad 81), .int x1]) (gQv D cy ad tL z0 v1 u) 0 0 (gA z0) := by
  refine Met.ofW (cc := cX6_resolveIt) (maxL := 2) (ret := none) (by decide) rfl ?_
  intro p e s m args below meth c s₁ B hml hv
  obtain ⟨rfl, hB0⟩ := hv
  have hP : va_P D vwCl (gW cy ad v u) s.heap := hB0.1
  have hK : gK D cy tL z0 s s.heap := hB0.2
  have hx := B.exec
  have hb := B.bytes
  have hr := B.returns
  have hts := atoms_spec (ws := wsX6_resolveIt) B.pre
  have hown : s.vm.findClass RX6 = some m.cls := findClass_of_methodNamed B.named
  have hlocks := B.notSynchronized
  have hS : va_S (gA z0) s.heap s.heap [] := va_S.rf
  have hl := lv_entry ([.ref (ad 81), .int x1]) (n := 2) (Nat.le_of_ble_eq_true rfl)
  rw [lg_entry_eq]
  generalize (lg_sl ([.ref (ad 81), .int x1]) ++ List.replicate (2 - (lg_sl ([.ref (ad 81), .int x1])).length) Slot.unset).toArray = ls at hl ⊢
  have hl : lv_has ls 2 [(0, .ref (ad 81)), (1, .int x1)] := hl
  have iX6 := (show ∀ w ∈ u_ws RX6 TX6 17, w ∈ wsX6_resolveIt by decide +kernel)
  have f106 := hts (.fieldLink RX6 106 "AdventureParserModel" "place" "I") (by decide +kernel)
  have f16 := hts (.fieldLink RX6 16 "AdventureParserModel" "s" "[I") (by decide +kernel)
  have f140 := hts (.fieldLink RX6 140 "AdventureParserModel" "found" "I") (by decide +kernel)
  have f131 := hts (.fieldLink RX6 131 "AdventureParserModel" "failure" "I") (by decide +kernel)
  clear hB0
  unfold sX6_resolveIt at hs
  refine lv_aload_n hx hb dX6_resolveIt_0 rfl (lv_at hl 0 rfl) ?_
  refine lv_dup hx hb dX6_resolveIt_1 rfl ?_
  refine va_get (D := D) (ci := 6) (v := .int (v 81 12)) (C := RX6) (T := TX6) (N := 17) hx hb hts iX6 hown hK.1 hP 81 (gW_6 kd81) rfl 12 (by decide) f106 (fun _ h9 => h9) rfl dX6_resolveIt_2 ?_
  refine lv_iconst (v := 1) hx hb dX6_resolveIt_5 (by decide) ?_
  refine lv_iadd hx hb dX6_resolveIt_6 ?_
  refine va_put (D := D) (ci := 6) (v := .int ((v 81 12) + 1)) (ty := .int) (C := RX6) (T := TX6) (N := 17) hx hb hts iX6 tyX6 tyX6_ok nmX6 hown hK.1 hP (gD hI) hS 81 (gW_6 kd81) rfl 12 (by decide) f106 (fun _ h9 => h9) rfl (by decide +kernel) rfl rfl (Nat.le_of_ble_eq_true rfl) dX6_resolveIt_7 (fun H locs hP _ hS => ?_)
  refine g_let hs (fun v_1 ev_1 hs => ?_)
  have hP : va_P D vwCl (gW cy ad v_1 u) H := gPset ((gS_6_12 kd81 ((v 81 12) + 1)).trans (congrArg (fun z => gW cy ad z u) ev_1.symm)) hP
  refine lv_aload_n hx hb dX6_resolveIt_10 rfl (lv_at hl 0 rfl) ?_
  refine lv_aload_n hx hb dX6_resolveIt_11 rfl (lv_at hl 0 rfl) ?_
  refine va_get (D := D) (ci := 6) (v := .ref (ad 84)) (C := RX6) (T := TX6) (N := 17) hx hb hts iX6 hown hK.1 hP 81 (gW_6 kd81) rfl 2 (by decide) f16 (fun _ h9 => h9) rfl dX6_resolveIt_12 ?_
  refine lv_bipush (v := 50) hx hb dX6_resolveIt_15 (by decide) ?_
  refine va_iald (i := 50) hx hb hK.1 hP 84 0 (gW_16 kd84) rfl (by unfold vp_in; decide) dX6_resolveIt_17 ?_
  refine va_put (D := D) (ci := 6) (v := .int (v_1 84 50)) (ty := .int) (C := RX6) (T := TX6) (N := 17) hx hb hts iX6 tyX6 tyX6_ok nmX6 hown hK.1 hP (gD hI) hS 81 (gW_6 kd81) rfl 14 (by decide) f140 (fun _ h9 => h9) rfl (by decide +kernel) rfl rfl (Nat.le_of_ble_eq_true rfl) dX6_resolveIt_18 (fun H locs hP _ hS => ?_)
  refine g_let hs (fun v_2 ev_2 hs => ?_)
  have hP : va_P D vwCl (gW cy ad v_2 u) H := gPset ((gS_6_14 kd81 (v_1 84 50)).trans (congrArg (fun z => gW cy ad z u) ev_2.symm)) hP
  refine lv_aload_n hx hb dX6_resolveIt_21 rfl (lv_at hl 0 rfl) ?_
  refine va_get (D := D) (ci := 6) (v := .int (v_2 81 14)) (C := RX6) (T := TX6) (N := 17) hx hb hts iX6 hown hK.1 hP 81 (gW_6 kd81) rfl 14 (by decide) f140 (fun _ h9 => h9) rfl dX6_resolveIt_22 ?_
  refine lv_if_ge (tgt := 37) hx hb dX6_resolveIt_25 (by decide) (fun hc => ?_) (fun hc => ?_)
  · have hs := g_t hs hc
    refine lv_aload_n hx hb dX6_resolveIt_37 rfl (lv_at hl 0 rfl) ?_
    refine lv_aload_n hx hb dX6_resolveIt_38 rfl (lv_at hl 0 rfl) ?_
    refine va_get (D := D) (ci := 6) (v := .int (v_2 81 14)) (C := RX6) (T := TX6) (N := 17) hx hb hts iX6 hown hK.1 hP 81 (gW_6 kd81) rfl 14 (by decide) f140 (fun _ h9 => h9) rfl dX6_resolveIt_39 ?_
    refine g_bind hs (fun q_3 hq_3 hs => ?_)
    refine gCV_i (As := [.int (v_2 81 14)]) (rest := []) ⟨hx, hb, hml, hown, hts⟩ (cX6_isVisible_c l D cy ad tL z0 hI v_2 u (v_2 81 14) q_3 hq_3) (cwV 1 hts gX6_resolveIt_X6_isVisible rfl rfl rfl (by decide +kernel) ⟨Nat.le_of_ble_eq_true rfl, Nat.le_of_ble_eq_true rfl⟩) hK hP hS (va_recv hK.1 hP (ci := 6) (q0 := 81) rfl (gW_6 kd81)) hl.1 rfl rfl (Nat.le_of_ble_eq_true rfl) dX6_resolveIt_42 ⟨Nat.zero_le _, Nat.zero_le _⟩ (fun H locs hP hS => ?_)
    refine lv_if_ne (tgt := 57) hx hb dX6_resolveIt_45 (by decide) (fun hc => ?_) (fun hc => ?_)
    · have hs := g_f hs hc
      refine lv_aload_n hx hb dX6_resolveIt_57 rfl (lv_at hl 0 rfl) ?_
      refine lv_iload_n hx hb dX6_resolveIt_58 rfl (lv_at hl 1 rfl) ?_
      refine g_bind hs (fun q_4 hq_4 hs => ?_)
      refine gCV_i (As := [.int x1]) (rest := []) ⟨hx, hb, hml, hown, hts⟩ (cX6_suitableOnes_c l D cy ad tL z0 hI n v_2 u x1 q_4 hq_4) (cwV 1 hts gX6_resolveIt_X6_suitableOnes rfl rfl rfl (by decide +kernel) ⟨Nat.le_of_ble_eq_true rfl, Nat.le_of_ble_eq_true rfl⟩) hK hP hS (va_recv hK.1 hP (ci := 6) (q0 := 81) rfl (gW_6 kd81)) hl.1 rfl rfl (Nat.le_of_ble_eq_true rfl) dX6_resolveIt_59 ⟨Nat.zero_le _, Nat.zero_le _⟩ (fun H locs hP hS => ?_)
      refine lv_aload_n hx hb dX6_resolveIt_62 rfl (lv_at hl 0 rfl) ?_
      refine va_get (D := D) (ci := 6) (v := .int (v_2 81 14)) (C := RX6) (T := TX6) (N := 17) hx hb hts iX6 hown hK.1 hP 81 (gW_6 kd81) rfl 14 (by decide) f140 (fun _ h9 => h9) rfl dX6_resolveIt_63 ?_
      refine lv_ishr hx hb dX6_resolveIt_66 ?_
      refine lv_iconst (v := 1) hx hb dX6_resolveIt_67 (by decide) ?_
      refine lv_iand hx hb dX6_resolveIt_68 ?_
      refine lv_if_ne (tgt := 78) hx hb dX6_resolveIt_69 (by decide) (fun hc => ?_) (fun hc => ?_)
      · have hs := g_f hs hc
        exact gRet_v hx hb hr hlocks hK hP hS (g_some hs) dX6_resolveIt_78
      · have hs := g_t hs hc
        refine lv_aload_n hx hb dX6_resolveIt_72 rfl (lv_at hl 0 rfl) ?_
        refine lv_bipush (v := (-3)) hx hb dX6_resolveIt_73 (by decide) ?_
        refine va_put (D := D) (ci := 6) (v := .int ((-3))) (ty := .int) (C := RX6) (T := TX6) (N := 17) hx hb hts iX6 tyX6 tyX6_ok nmX6 hown hK.1 hP (gD hI) hS 81 (gW_6 kd81) rfl 13 (by decide) f131 (fun _ h9 => h9) rfl (by decide +kernel) rfl rfl (Nat.le_of_ble_eq_true rfl) dX6_resolveIt_75 (fun H locs hP _ hS => ?_)
        refine g_let hs (fun v_5 ev_5 hs => ?_)
        have hP : va_P D vwCl (gW cy ad v_5 u) H := gPset ((gS_6_13 kd81 ((-3))).trans (congrArg (fun z => gW cy ad z u) ev_5.symm)) hP
        exact gRet_v hx hb hr hlocks hK hP hS (g_some hs) dX6_resolveIt_78
    · have hs := g_t hs hc
      refine lv_aload_n hx hb dX6_resolveIt_48 rfl (lv_at hl 0 rfl) ?_
      refine lv_bipush (v := (-2)) hx hb dX6_resolveIt_49 (by decide) ?_
      refine va_put (D := D) (ci := 6) (v := .int ((-2))) (ty := .int) (C := RX6) (T := TX6) (N := 17) hx hb hts iX6 tyX6 tyX6_ok nmX6 hown hK.1 hP (gD hI) hS 81 (gW_6 kd81) rfl 13 (by decide) f131 (fun _ h9 => h9) rfl (by decide +kernel) rfl rfl (Nat.le_of_ble_eq_true rfl) dX6_resolveIt_51 (fun H locs hP _ hS => ?_)
      refine g_let hs (fun v_6 ev_6 hs => ?_)
      have hP : va_P D vwCl (gW cy ad v_6 u) H := gPset ((gS_6_13 kd81 ((-2))).trans (congrArg (fun z => gW cy ad z u) ev_6.symm)) hP
      refine lv_goto (tgt := 78) hx hb dX6_resolveIt_54 (by decide) ?_
      exact gRet_v hx hb hr hlocks hK hP hS (g_some hs) dX6_resolveIt_78
  · have hs := g_f hs hc
    refine lv_aload_n hx hb dX6_resolveIt_28 rfl (lv_at hl 0 rfl) ?_
    refine lv_bipush (v := (-4)) hx hb dX6_resolveIt_29 (by decide) ?_
    refine va_put (D := D) (ci := 6) (v := .int ((-4))) (ty := .int) (C := RX6) (T := TX6) (N := 17) hx hb hts iX6 tyX6 tyX6_ok nmX6 hown hK.1 hP (gD hI) hS 81 (gW_6 kd81) rfl 13 (by decide) f131 (fun _ h9 => h9) rfl (by decide +kernel) rfl rfl (Nat.le_of_ble_eq_true rfl) dX6_resolveIt_31 (fun H locs hP _ hS => ?_)
    refine g_let hs (fun v_7 ev_7 hs => ?_)
    have hP : va_P D vwCl (gW cy ad v_7 u) H := gPset ((gS_6_13 kd81 ((-4))).trans (congrArg (fun z => gW cy ad z u) ev_7.symm)) hP
    refine lv_goto (tgt := 78) hx hb dX6_resolveIt_34 (by decide) ?_
    exact gRet_v hx hb hr hlocks hK hP hS (g_some hs) dX6_resolveIt_78
set_option maxHeartbeats 4000000 in
set_option maxRecDepth 100000 in
theorem cX6_resolveObjects_c (l : Launch) (D : va_G) (cy : Nat → ClassId) (ad : Nat → Nat) (tL z0 : Nat) (hI : gI z0 ad) (n : Nat) (v : gV) (u : Int64) (x1 : Int32) (r0 : Int32) (v1 : gV) (hs : sX6_resolveObjects n v x1 = some (r0, v1)) : Met l yX6_resolveObjects wsX6_resolveObjects ({ frames := 6, cells := 0, slots := 0, locals := 134 } : Room) (gPc D cy ad tL z0 v u [.ref (ad 81), .int x1]) (gQi D cy ad tL z0 v1 u r0) 0 0 (gA z0) := by
  refine Met.ofW (cc := cX6_resolveObjects) (maxL := 4) (ret := (some .int)) (by decide) rfl ?_
  intro p e s m args below meth c s₁ B hml hv
  obtain ⟨rfl, hB0⟩ := hv
  have hP : va_P D vwCl (gW cy ad v u) s.heap := hB0.1
  have hK : gK D cy tL z0 s s.heap := hB0.2
  have hx := B.exec
  have hb := B.bytes
  have hr := B.returns
  have hts := atoms_spec (ws := wsX6_resolveObjects) B.pre
  have hown : s.vm.findClass RX6 = some m.cls := findClass_of_methodNamed B.named
  have hlocks := B.notSynchronized
  have hS : va_S (gA z0) s.heap s.heap [] := va_S.rf
  have hl := lv_entry ([.ref (ad 81), .int x1]) (n := 4) (Nat.le_of_ble_eq_true rfl)
  rw [lg_entry_eq]
  generalize (lg_sl ([.ref (ad 81), .int x1]) ++ List.replicate (4 - (lg_sl ([.ref (ad 81), .int x1])).length) Slot.unset).toArray = ls at hl ⊢
  have hl : lv_has ls 4 [(0, .ref (ad 81)), (1, .int x1)] := hl
  have iX6 := (show ∀ w ∈ u_ws RX6 TX6 17, w ∈ wsX6_resolveObjects by decide +kernel)
  have f106 := hts (.fieldLink RX6 106 "AdventureParserModel" "place" "I") (by decide +kernel)
  have f131 := hts (.fieldLink RX6 131 "AdventureParserModel" "failure" "I") (by decide +kernel)
  have f140 := hts (.fieldLink RX6 140 "AdventureParserModel" "found" "I") (by decide +kernel)
  have f16 := hts (.fieldLink RX6 16 "AdventureParserModel" "s" "[I") (by decide +kernel)
  have f115 := hts (.fieldLink RX6 115 "AdventureParserModel" "nounAt" "I") (by decide +kernel)
  have f112 := hts (.fieldLink RX6 112 "AdventureParserModel" "adjectiveAt" "I") (by decide +kernel)
  clear hB0
  have hL_194 : ∀ (k : Nat), ∀ (v : gV) (w1 : Int32) (w2 : Int32) (w3 : Int32) (H : Heap) (locs : List Loc) (ls : Array Slot), va_P D vwCl (gW cy ad v u) H → va_S (gA z0) s.heap H locs → lv_has ls 4 [(0, .ref (ad 81)), (1, .int w1), (2, .int w2), (3, .int w3)] → sX6_resolveObjects_194 n k v w1 w2 w3 = some (r0, v1) → W p l e (headSpec wsX6_resolveObjects ({ frames := 6, cells := 0, slots := 0, locals := 134 } : Room)).room s m ([.ref (ad 81), .int x1] : List Value).toArray below meth c H locs 0 0 (MQ below (gQi D cy ad tL z0 v1 u r0) ([.ref (ad 81), .int x1] : List Value).toArray s 0 0 (gA z0)) (F0 m 194 ls []) := by
    intro k
    induction k with
    | zero =>
      intro v w1 w2 w3 H locs ls hP hS hl hs
      exact g_none hs
    | succ k ih =>
      have hJ_248 : ∀ (v : gV) (w1 : Int32) (w2 : Int32) (t0 : Int32) (H : Heap) (locs : List Loc) (ls : Array Slot), va_P D vwCl (gW cy ad v u) H → va_S (gA z0) s.heap H locs → lv_has ls 4 [(0, .ref (ad 81)), (1, .int w1), (2, .int w2)] → sX6_resolveObjects_248 n (sX6_resolveObjects_194 n k) v w1 w2 t0 = some (r0, v1) → W p l e (headSpec wsX6_resolveObjects ({ frames := 6, cells := 0, slots := 0, locals := 134 } : Room)).room s m ([.ref (ad 81), .int x1] : List Value).toArray below meth c H locs 0 0 (MQ below (gQi D cy ad tL z0 v1 u r0) ([.ref (ad 81), .int x1] : List Value).toArray s 0 0 (gA z0)) (F0 m 248 ls [.int t0]) := by
        intro v w1 w2 t0 H locs ls hP hS hl hs
        unfold sX6_resolveObjects_248 at hs
        refine lv_istore_n (lv' := [(3, .int t0), (0, .ref (ad 81)), (1, .int w1), (2, .int w2)]) hx hb dX6_resolveObjects_248 rfl hl (by decide) rfl (fun ls hl => ?_)
        refine lv_aload_n hx hb dX6_resolveObjects_249 rfl (lv_at hl 1 rfl) ?_
        refine lv_dup hx hb dX6_resolveObjects_250 rfl ?_
        refine va_get (D := D) (ci := 6) (v := .int (v 81 12)) (C := RX6) (T := TX6) (N := 17) hx hb hts iX6 hown hK.1 hP 81 (gW_6 kd81) rfl 12 (by decide) f106 (fun _ h9 => h9) rfl dX6_resolveObjects_251 ?_
        refine lv_iconst (v := 1) hx hb dX6_resolveObjects_254 (by decide) ?_
        refine lv_iadd hx hb dX6_resolveObjects_255 ?_
        refine va_put (D := D) (ci := 6) (v := .int ((v 81 12) + 1)) (ty := .int) (C := RX6) (T := TX6) (N := 17) hx hb hts iX6 tyX6 tyX6_ok nmX6 hown hK.1 hP (gD hI) hS 81 (gW_6 kd81) rfl 12 (by decide) f106 (fun _ h9 => h9) rfl (by decide +kernel) rfl rfl (Nat.le_of_ble_eq_true rfl) dX6_resolveObjects_256 (fun H locs hP _ hS => ?_)
        refine g_let hs (fun v_6 ev_6 hs => ?_)
        have hP : va_P D vwCl (gW cy ad v_6 u) H := gPset ((gS_6_12 kd81 ((v 81 12) + 1)).trans (congrArg (fun z => gW cy ad z u) ev_6.symm)) hP
        refine lv_goto (tgt := 194) hx hb dX6_resolveObjects_259 (by decide) ?_
        exact ih v_6 w1 w2 t0 _ _ _ hP hS (lv_sub hl [1, 2, 3, 0] rfl) hs
      have hJ_221 : ∀ (v : gV) (w1 : Int32) (t0 : Int32) (t1 : Int32) (H : Heap) (locs : List Loc) (ls : Array Slot), va_P D vwCl (gW cy ad v u) H → va_S (gA z0) s.heap H locs → lv_has ls 4 [(0, .ref (ad 81)), (1, .int w1)] → sX6_resolveObjects_221 n (sX6_resolveObjects_194 n k) v w1 t0 t1 = some (r0, v1) → W p l e (headSpec wsX6_resolveObjects ({ frames := 6, cells := 0, slots := 0, locals := 134 } : Room)).room s m ([.ref (ad 81), .int x1] : List Value).toArray below meth c H locs 0 0 (MQ below (gQi D cy ad tL z0 v1 u r0) ([.ref (ad 81), .int x1] : List Value).toArray s 0 0 (gA z0)) (F0 m 221 ls [.int t1, .int t0]) := by
        intro v w1 t0 t1 H locs ls hP hS hl hs
        unfold sX6_resolveObjects_221 at hs
        refine lv_ior hx hb dX6_resolveObjects_221 ?_
        refine lv_istore_n (lv' := [(2, .int (t0 ||| t1)), (0, .ref (ad 81)), (1, .int w1)]) hx hb dX6_resolveObjects_222 rfl hl (by decide) rfl (fun ls hl => ?_)
        refine lv_aload_n hx hb dX6_resolveObjects_223 rfl (lv_at hl 1 rfl) ?_
        refine va_get (D := D) (ci := 6) (v := .int (v 81 13)) (C := RX6) (T := TX6) (N := 17) hx hb hts iX6 hown hK.1 hP 81 (gW_6 kd81) rfl 13 (by decide) f131 (fun _ h9 => h9) rfl dX6_resolveObjects_224 ?_
        refine lv_if_ne (tgt := 247) hx hb dX6_resolveObjects_227 (by decide) (fun hc => ?_) (fun hc => ?_)
        · have hs := g_f hs hc
          refine lv_iconst (v := 0) hx hb dX6_resolveObjects_247 (by decide) ?_
          exact hJ_248 v w1 (t0 ||| t1) 0 _ _ _ hP hS (lv_sub hl [1, 2, 0] rfl) hs
        · have hs := g_t hs hc
          refine lv_aload_n hx hb dX6_resolveObjects_230 rfl (lv_at hl 1 rfl) ?_
          refine lv_aload_n hx hb dX6_resolveObjects_231 rfl (lv_at hl 1 rfl) ?_
          refine va_get (D := D) (ci := 6) (v := .int (v 81 12)) (C := RX6) (T := TX6) (N := 17) hx hb hts iX6 hown hK.1 hP 81 (gW_6 kd81) rfl 12 (by decide) f106 (fun _ h9 => h9) rfl dX6_resolveObjects_232 ?_
          refine g_bind hs (fun q_7 hq_7 hs => ?_)
          refine gCV_i (As := [.int (v 81 12)]) (rest := []) ⟨hx, hb, hml, hown, hts⟩ (cX6_word_c l D cy ad tL z0 hI v u (v 81 12) q_7 hq_7) (cwV 1 hts gX6_resolveObjects_X6_word rfl rfl rfl (by decide +kernel) ⟨Nat.le_of_ble_eq_true rfl, Nat.le_of_ble_eq_true rfl⟩) hK hP hS (va_recv hK.1 hP (ci := 6) (q0 := 81) rfl (gW_6 kd81)) hl.1 rfl rfl (Nat.le_of_ble_eq_true rfl) dX6_resolveObjects_235 ⟨Nat.zero_le _, Nat.zero_le _⟩ (fun H locs hP hS => ?_)
          refine lv_bipush (v := 19) hx hb dX6_resolveObjects_238 (by decide) ?_
          refine lv_icmp_ne (tgt := 247) hx hb dX6_resolveObjects_240 (by decide) (fun hc => ?_) (fun hc => ?_)
          · have hs := g_f hs hc
            refine lv_iconst (v := 0) hx hb dX6_resolveObjects_247 (by decide) ?_
            exact hJ_248 v w1 (t0 ||| t1) 0 _ _ _ hP hS (lv_sub hl [1, 2, 0] rfl) hs
          · have hs := g_t hs hc
            refine lv_iconst (v := 1) hx hb dX6_resolveObjects_243 (by decide) ?_
            refine lv_goto (tgt := 248) hx hb dX6_resolveObjects_244 (by decide) ?_
            exact hJ_248 v w1 (t0 ||| t1) 1 _ _ _ hP hS (lv_sub hl [1, 2, 0] rfl) hs
      intro v w1 w2 w3 H locs ls hP hS hl hs
      rw [sX6_resolveObjects_194] at hs
      refine lv_iload_n hx hb dX6_resolveObjects_194 rfl (lv_at hl 3 rfl) ?_
      refine lv_if_eq (tgt := 262) hx hb dX6_resolveObjects_195 (by decide) (fun hc => ?_) (fun hc => ?_)
      · have hs := g_t hs hc
        refine lv_iload_n hx hb dX6_resolveObjects_262 rfl (lv_at hl 2 rfl) ?_
        exact gRet_i hx hb hr hlocks hK hP hS (g_some2 hs) dX6_resolveObjects_263
      · have hs := g_f hs hc
        refine lv_aload_n hx hb dX6_resolveObjects_198 rfl (lv_at hl 0 rfl) ?_
        refine lv_iload_n hx hb dX6_resolveObjects_199 rfl (lv_at hl 1 rfl) ?_
        refine g_bind hs (fun q_5 hq_5 hs => ?_)
        refine gCV_v (As := [.int w1]) (rest := []) ⟨hx, hb, hml, hown, hts⟩ (cX6_describe_c l D cy ad tL z0 hI n v u w1 q_5 hq_5) (cwV 1 hts gX6_resolveObjects_X6_describe rfl rfl rfl (by decide +kernel) ⟨Nat.le_of_ble_eq_true rfl, Nat.le_of_ble_eq_true rfl⟩) hK hP hS (va_recv hK.1 hP (ci := 6) (q0 := 81) rfl (gW_6 kd81)) hl.1 rfl rfl (Nat.le_of_ble_eq_true rfl) dX6_resolveObjects_200 ⟨Nat.zero_le _, Nat.zero_le _⟩ (fun H locs hP hS => ?_)
        refine lv_iload_n hx hb dX6_resolveObjects_203 rfl (lv_at hl 2 rfl) ?_
        refine lv_aload_n hx hb dX6_resolveObjects_204 rfl (lv_at hl 0 rfl) ?_
        refine va_get (D := D) (ci := 6) (v := .int (q_5 81 13)) (C := RX6) (T := TX6) (N := 17) hx hb hts iX6 hown hK.1 hP 81 (gW_6 kd81) rfl 13 (by decide) f131 (fun _ h9 => h9) rfl dX6_resolveObjects_205 ?_
        refine lv_if_ge (tgt := 215) hx hb dX6_resolveObjects_208 (by decide) (fun hc => ?_) (fun hc => ?_)
        · have hs := g_t hs hc
          refine lv_iconst (v := 1) hx hb dX6_resolveObjects_215 (by decide) ?_
          refine lv_aload_n hx hb dX6_resolveObjects_216 rfl (lv_at hl 0 rfl) ?_
          refine va_get (D := D) (ci := 6) (v := .int (q_5 81 14)) (C := RX6) (T := TX6) (N := 17) hx hb hts iX6 hown hK.1 hP 81 (gW_6 kd81) rfl 14 (by decide) f140 (fun _ h9 => h9) rfl dX6_resolveObjects_217 ?_
          refine lv_ishl hx hb dX6_resolveObjects_220 ?_
          exact hJ_221 q_5 w1 w2 ((1 : Int32) <<< ((q_5 81 14) &&& 31)) _ _ _ hP hS (lv_sub hl [0, 1] rfl) hs
        · have hs := g_f hs hc
          refine lv_iconst (v := 0) hx hb dX6_resolveObjects_211 (by decide) ?_
          refine lv_goto (tgt := 221) hx hb dX6_resolveObjects_212 (by decide) ?_
          exact hJ_221 q_5 w1 w2 0 _ _ _ hP hS (lv_sub hl [0, 1] rfl) hs
  have hL_28 : ∀ (k : Nat), ∀ (v : gV) (w2 : Int32) (H : Heap) (locs : List Loc) (ls : Array Slot), va_P D vwCl (gW cy ad v u) H → va_S (gA z0) s.heap H locs → lv_has ls 4 [(0, .ref (ad 81)), (2, .int w2)] → sX6_resolveObjects_28 n k v w2 = some (r0, v1) → W p l e (headSpec wsX6_resolveObjects ({ frames := 6, cells := 0, slots := 0, locals := 134 } : Room)).room s m ([.ref (ad 81), .int x1] : List Value).toArray below meth c H locs 0 0 (MQ below (gQi D cy ad tL z0 v1 u r0) ([.ref (ad 81), .int x1] : List Value).toArray s 0 0 (gA z0)) (F0 m 28 ls []) := by
    intro k
    induction k with
    | zero =>
      intro v w2 H locs ls hP hS hl hs
      exact g_none hs
    | succ k ih =>
      have hJ_54 : ∀ (v : gV) (w2 : Int32) (H : Heap) (locs : List Loc) (ls : Array Slot), va_P D vwCl (gW cy ad v u) H → va_S (gA z0) s.heap H locs → lv_has ls 4 [(0, .ref (ad 81)), (2, .int w2)] → sX6_resolveObjects_54 n (sX6_resolveObjects_28 n k) v w2 = some (r0, v1) → W p l e (headSpec wsX6_resolveObjects ({ frames := 6, cells := 0, slots := 0, locals := 134 } : Room)).room s m ([.ref (ad 81), .int x1] : List Value).toArray below meth c H locs 0 0 (MQ below (gQi D cy ad tL z0 v1 u r0) ([.ref (ad 81), .int x1] : List Value).toArray s 0 0 (gA z0)) (F0 m 54 ls []) := by
        intro v w2 H locs ls hP hS hl hs
        unfold sX6_resolveObjects_54 at hs
        refine lv_aload_n hx hb dX6_resolveObjects_54 rfl (lv_at hl 0 rfl) ?_
        refine lv_dup hx hb dX6_resolveObjects_55 rfl ?_
        refine va_get (D := D) (ci := 6) (v := .int (v 81 12)) (C := RX6) (T := TX6) (N := 17) hx hb hts iX6 hown hK.1 hP 81 (gW_6 kd81) rfl 12 (by decide) f106 (fun _ h9 => h9) rfl dX6_resolveObjects_56 ?_
        refine lv_iconst (v := 1) hx hb dX6_resolveObjects_59 (by decide) ?_
        refine lv_iadd hx hb dX6_resolveObjects_60 ?_
        refine va_put (D := D) (ci := 6) (v := .int ((v 81 12) + 1)) (ty := .int) (C := RX6) (T := TX6) (N := 17) hx hb hts iX6 tyX6 tyX6_ok nmX6 hown hK.1 hP (gD hI) hS 81 (gW_6 kd81) rfl 12 (by decide) f106 (fun _ h9 => h9) rfl (by decide +kernel) rfl rfl (Nat.le_of_ble_eq_true rfl) dX6_resolveObjects_61 (fun H locs hP _ hS => ?_)
        refine g_let hs (fun v_16 ev_16 hs => ?_)
        have hP : va_P D vwCl (gW cy ad v_16 u) H := gPset ((gS_6_12 kd81 ((v 81 12) + 1)).trans (congrArg (fun z => gW cy ad z u) ev_16.symm)) hP
        refine lv_aload_n hx hb dX6_resolveObjects_64 rfl (lv_at hl 0 rfl) ?_
        refine g_bind hs (fun q_17 hq_17 hs => ?_)
        refine gCV_v (As := []) (rest := []) ⟨hx, hb, hml, hown, hts⟩ (cX6_readDescription_c l D cy ad tL z0 hI v_16 u q_17 hq_17) (cwV 0 hts gX6_resolveObjects_X6_readDescription rfl rfl rfl (by decide +kernel) ⟨Nat.le_of_ble_eq_true rfl, Nat.le_of_ble_eq_true rfl⟩) hK hP hS (va_recv hK.1 hP (ci := 6) (q0 := 81) rfl (gW_6 kd81)) hl.1 rfl rfl (Nat.le_of_ble_eq_true rfl) dX6_resolveObjects_65 ⟨Nat.zero_le _, Nat.zero_le _⟩ (fun H locs hP hS => ?_)
        refine lv_iload_n hx hb dX6_resolveObjects_68 rfl (lv_at hl 1 rfl) ?_
        refine lv_aload_n hx hb dX6_resolveObjects_69 rfl (lv_at hl 0 rfl) ?_
        refine lv_aload_n hx hb dX6_resolveObjects_70 rfl (lv_at hl 0 rfl) ?_
        refine va_get (D := D) (ci := 6) (v := .int (q_17 81 15)) (C := RX6) (T := TX6) (N := 17) hx hb hts iX6 hown hK.1 hP 81 (gW_6 kd81) rfl 15 (by decide) f115 (fun _ h9 => h9) rfl dX6_resolveObjects_71 ?_
        refine lv_aload_n hx hb dX6_resolveObjects_74 rfl (lv_at hl 0 rfl) ?_
        refine va_get (D := D) (ci := 6) (v := .int (q_17 81 16)) (C := RX6) (T := TX6) (N := 17) hx hb hts iX6 hown hK.1 hP 81 (gW_6 kd81) rfl 16 (by decide) f112 (fun _ h9 => h9) rfl dX6_resolveObjects_75 ?_
        refine g_bind hs (fun q_18 hq_18 hs => ?_)
        refine gCV_i (As := [.int (q_17 81 15), .int (q_17 81 16)]) (rest := [.int w2]) ⟨hx, hb, hml, hown, hts⟩ (cX6_fittingOnes_c l D cy ad tL z0 hI n q_17 u (q_17 81 15) (q_17 81 16) q_18 hq_18) (cwV 2 hts gX6_resolveObjects_X6_fittingOnes rfl rfl rfl (by decide +kernel) ⟨Nat.le_of_ble_eq_true rfl, Nat.le_of_ble_eq_true rfl⟩) hK hP hS (va_recv hK.1 hP (ci := 6) (q0 := 81) rfl (gW_6 kd81)) hl.1 rfl rfl (Nat.le_of_ble_eq_true rfl) dX6_resolveObjects_78 ⟨Nat.zero_le _, Nat.zero_le _⟩ (fun H locs hP hS => ?_)
        refine lv_iconst (v := (-1)) hx hb dX6_resolveObjects_81 (by decide) ?_
        refine lv_ixor hx hb dX6_resolveObjects_82 ?_
        refine lv_iand hx hb dX6_resolveObjects_83 ?_
        refine lv_istore_n (lv' := [(2, .int (w2 &&& (q_18 ^^^ ((-1))))), (0, .ref (ad 81))]) hx hb dX6_resolveObjects_84 rfl hl (by decide) rfl (fun ls hl => ?_)
        refine lv_goto (tgt := 28) hx hb dX6_resolveObjects_85 (by decide) ?_
        exact ih q_17 (w2 &&& (q_18 ^^^ ((-1)))) _ _ _ hP hS (lv_sub hl [1, 0] rfl) hs
      intro v w2 H locs ls hP hS hl hs
      rw [sX6_resolveObjects_28] at hs
      refine lv_aload_n hx hb dX6_resolveObjects_28 rfl (lv_at hl 0 rfl) ?_
      refine lv_aload_n hx hb dX6_resolveObjects_29 rfl (lv_at hl 0 rfl) ?_
      refine va_get (D := D) (ci := 6) (v := .int (v 81 12)) (C := RX6) (T := TX6) (N := 17) hx hb hts iX6 hown hK.1 hP 81 (gW_6 kd81) rfl 12 (by decide) f106 (fun _ h9 => h9) rfl dX6_resolveObjects_30 ?_
      refine g_bind hs (fun q_15 hq_15 hs => ?_)
      refine gCV_i (As := [.int (v 81 12)]) (rest := []) ⟨hx, hb, hml, hown, hts⟩ (cX6_word_c l D cy ad tL z0 hI v u (v 81 12) q_15 hq_15) (cwV 1 hts gX6_resolveObjects_X6_word rfl rfl rfl (by decide +kernel) ⟨Nat.le_of_ble_eq_true rfl, Nat.le_of_ble_eq_true rfl⟩) hK hP hS (va_recv hK.1 hP (ci := 6) (q0 := 81) rfl (gW_6 kd81)) hl.1 rfl rfl (Nat.le_of_ble_eq_true rfl) dX6_resolveObjects_33 ⟨Nat.zero_le _, Nat.zero_le _⟩ (fun H locs hP hS => ?_)
      refine lv_bipush (v := 18) hx hb dX6_resolveObjects_36 (by decide) ?_
      refine lv_icmp_eq (tgt := 54) hx hb dX6_resolveObjects_38 (by decide) (fun hc => ?_) (fun hc => ?_)
      · have hs := g_t hs hc
        exact hJ_54 v w2 _ _ _ hP hS (lv_sub hl [0, 1] rfl) hs
      · have hs := g_f hs hc
        refine lv_aload_n hx hb dX6_resolveObjects_41 rfl (lv_at hl 0 rfl) ?_
        refine lv_aload_n hx hb dX6_resolveObjects_42 rfl (lv_at hl 0 rfl) ?_
        refine va_get (D := D) (ci := 6) (v := .int (v 81 12)) (C := RX6) (T := TX6) (N := 17) hx hb hts iX6 hown hK.1 hP 81 (gW_6 kd81) rfl 12 (by decide) f106 (fun _ h9 => h9) rfl dX6_resolveObjects_43 ?_
        refine g_bind hs (fun q_19 hq_19 hs => ?_)
        refine gCV_i (As := [.int (v 81 12)]) (rest := []) ⟨hx, hb, hml, hown, hts⟩ (cX6_word_c l D cy ad tL z0 hI v u (v 81 12) q_19 hq_19) (cwV 1 hts gX6_resolveObjects_X6_word rfl rfl rfl (by decide +kernel) ⟨Nat.le_of_ble_eq_true rfl, Nat.le_of_ble_eq_true rfl⟩) hK hP hS (va_recv hK.1 hP (ci := 6) (q0 := 81) rfl (gW_6 kd81)) hl.1 rfl rfl (Nat.le_of_ble_eq_true rfl) dX6_resolveObjects_46 ⟨Nat.zero_le _, Nat.zero_le _⟩ (fun H locs hP hS => ?_)
        refine lv_bipush (v := 19) hx hb dX6_resolveObjects_49 (by decide) ?_
        refine lv_icmp_ne (tgt := 88) hx hb dX6_resolveObjects_51 (by decide) (fun hc => ?_) (fun hc => ?_)
        · have hs := g_f hs hc
          refine lv_aload_n hx hb dX6_resolveObjects_88 rfl (lv_at hl 0 rfl) ?_
          refine lv_iload_n hx hb dX6_resolveObjects_89 rfl (lv_at hl 1 rfl) ?_
          refine lv_if_ne (tgt := 98) hx hb dX6_resolveObjects_90 (by decide) (fun hc => ?_) (fun hc => ?_)
          · have hs := g_f hs hc
            refine lv_iconst (v := 0) hx hb dX6_resolveObjects_98 (by decide) ?_
            refine va_put (D := D) (ci := 6) (v := .int 0) (ty := .int) (C := RX6) (T := TX6) (N := 17) hx hb hts iX6 tyX6 tyX6_ok nmX6 hown hK.1 hP (gD hI) hS 81 (gW_6 kd81) rfl 13 (by decide) f131 (fun _ h9 => h9) rfl (by decide +kernel) rfl rfl (Nat.le_of_ble_eq_true rfl) dX6_resolveObjects_99 (fun H locs hP _ hS => ?_)
            refine g_let hs (fun v_20 ev_20 hs => ?_)
            have hP : va_P D vwCl (gW cy ad v_20 u) H := gPset ((gS_6_13 kd81 0).trans (congrArg (fun z => gW cy ad z u) ev_20.symm)) hP
            refine lv_iload_n hx hb dX6_resolveObjects_102 rfl (lv_at hl 1 rfl) ?_
            exact gRet_i hx hb hr hlocks hK hP hS (g_some2 hs) dX6_resolveObjects_103
          · have hs := g_t hs hc
            refine lv_bipush (v := (-3)) hx hb dX6_resolveObjects_93 (by decide) ?_
            refine lv_goto (tgt := 99) hx hb dX6_resolveObjects_95 (by decide) ?_
            refine va_put (D := D) (ci := 6) (v := .int ((-3))) (ty := .int) (C := RX6) (T := TX6) (N := 17) hx hb hts iX6 tyX6 tyX6_ok nmX6 hown hK.1 hP (gD hI) hS 81 (gW_6 kd81) rfl 13 (by decide) f131 (fun _ h9 => h9) rfl (by decide +kernel) rfl rfl (Nat.le_of_ble_eq_true rfl) dX6_resolveObjects_99 (fun H locs hP _ hS => ?_)
            refine g_let hs (fun v_21 ev_21 hs => ?_)
            have hP : va_P D vwCl (gW cy ad v_21 u) H := gPset ((gS_6_13 kd81 ((-3))).trans (congrArg (fun z => gW cy ad z u) ev_21.symm)) hP
            refine lv_iload_n hx hb dX6_resolveObjects_102 rfl (lv_at hl 1 rfl) ?_
            exact gRet_i hx hb hr hlocks hK hP hS (g_some2 hs) dX6_resolveObjects_103
        · have hs := g_t hs hc
          exact hJ_54 v w2 _ _ _ hP hS (lv_sub hl [0, 1] rfl) hs
  unfold sX6_resolveObjects at hs
  refine lv_aload_n hx hb dX6_resolveObjects_0 rfl (lv_at hl 0 rfl) ?_
  refine lv_iconst (v := 1) hx hb dX6_resolveObjects_1 (by decide) ?_
  refine va_put (D := D) (ci := 6) (v := .int 1) (ty := .int) (C := RX6) (T := TX6) (N := 17) hx hb hts iX6 tyX6 tyX6_ok nmX6 hown hK.1 hP (gD hI) hS 81 (gW_6 kd81) rfl 12 (by decide) f106 (fun _ h9 => h9) rfl (by decide +kernel) rfl rfl (Nat.le_of_ble_eq_true rfl) dX6_resolveObjects_2 (fun H locs hP _ hS => ?_)
  refine g_let hs (fun v_1 ev_1 hs => ?_)
  have hP : va_P D vwCl (gW cy ad v_1 u) H := gPset ((gS_6_12 kd81 1).trans (congrArg (fun z => gW cy ad z u) ev_1.symm)) hP
  refine lv_iconst (v := 0) hx hb dX6_resolveObjects_5 (by decide) ?_
  refine lv_istore_n (lv' := [(2, .int 0), (0, .ref (ad 81)), (1, .int x1)]) hx hb dX6_resolveObjects_6 rfl hl (by decide) rfl (fun ls hl => ?_)
  refine lv_aload_n hx hb dX6_resolveObjects_7 rfl (lv_at hl 1 rfl) ?_
  refine lv_iconst (v := 1) hx hb dX6_resolveObjects_8 (by decide) ?_
  refine g_bind hs (fun q_2 hq_2 hs => ?_)
  refine gCV_i (As := [.int 1]) (rest := []) ⟨hx, hb, hml, hown, hts⟩ (cX6_word_c l D cy ad tL z0 hI v_1 u 1 q_2 hq_2) (cwV 1 hts gX6_resolveObjects_X6_word rfl rfl rfl (by decide +kernel) ⟨Nat.le_of_ble_eq_true rfl, Nat.le_of_ble_eq_true rfl⟩) hK hP hS (va_recv hK.1 hP (ci := 6) (q0 := 81) rfl (gW_6 kd81)) hl.1 rfl rfl (Nat.le_of_ble_eq_true rfl) dX6_resolveObjects_9 ⟨Nat.zero_le _, Nat.zero_le _⟩ (fun H locs hP hS => ?_)
  refine lv_bipush (v := 17) hx hb dX6_resolveObjects_12 (by decide) ?_
  refine lv_icmp_ne (tgt := 104) hx hb dX6_resolveObjects_14 (by decide) (fun hc => ?_) (fun hc => ?_)
  · have hs := g_f hs hc
    refine lv_aload_n hx hb dX6_resolveObjects_104 rfl (lv_at hl 1 rfl) ?_
    refine lv_iconst (v := 1) hx hb dX6_resolveObjects_105 (by decide) ?_
    refine g_bind hs (fun q_3 hq_3 hs => ?_)
    refine gCV_i (As := [.int 1]) (rest := []) ⟨hx, hb, hml, hown, hts⟩ (cX6_word_c l D cy ad tL z0 hI v_1 u 1 q_3 hq_3) (cwV 1 hts gX6_resolveObjects_X6_word rfl rfl rfl (by decide +kernel) ⟨Nat.le_of_ble_eq_true rfl, Nat.le_of_ble_eq_true rfl⟩) hK hP hS (va_recv hK.1 hP (ci := 6) (q0 := 81) rfl (gW_6 kd81)) hl.1 rfl rfl (Nat.le_of_ble_eq_true rfl) dX6_resolveObjects_106 ⟨Nat.zero_le _, Nat.zero_le _⟩ (fun H locs hP hS => ?_)
    refine lv_bipush (v := 23) hx hb dX6_resolveObjects_109 (by decide) ?_
    refine lv_icmp_ne (tgt := 159) hx hb dX6_resolveObjects_111 (by decide) (fun hc => ?_) (fun hc => ?_)
    · have hs := g_f hs hc
      refine lv_aload_n hx hb dX6_resolveObjects_159 rfl (lv_at hl 1 rfl) ?_
      refine lv_iconst (v := 1) hx hb dX6_resolveObjects_160 (by decide) ?_
      refine g_bind hs (fun q_4 hq_4 hs => ?_)
      refine gCV_i (As := [.int 1]) (rest := []) ⟨hx, hb, hml, hown, hts⟩ (cX6_word_c l D cy ad tL z0 hI v_1 u 1 q_4 hq_4) (cwV 1 hts gX6_resolveObjects_X6_word rfl rfl rfl (by decide +kernel) ⟨Nat.le_of_ble_eq_true rfl, Nat.le_of_ble_eq_true rfl⟩) hK hP hS (va_recv hK.1 hP (ci := 6) (q0 := 81) rfl (gW_6 kd81)) hl.1 rfl rfl (Nat.le_of_ble_eq_true rfl) dX6_resolveObjects_161 ⟨Nat.zero_le _, Nat.zero_le _⟩ (fun H locs hP hS => ?_)
      refine lv_bipush (v := 22) hx hb dX6_resolveObjects_164 (by decide) ?_
      refine lv_icmp_ne (tgt := 192) hx hb dX6_resolveObjects_166 (by decide) (fun hc => ?_) (fun hc => ?_)
      · have hs := g_f hs hc
        refine lv_iconst (v := 1) hx hb dX6_resolveObjects_192 (by decide) ?_
        refine lv_istore_n (lv' := [(3, .int 1), (2, .int 0), (0, .ref (ad 81)), (1, .int x1)]) hx hb dX6_resolveObjects_193 rfl hl (by decide) rfl (fun ls hl => ?_)
        exact hL_194 n v_1 x1 0 1 _ _ _ hP hS (lv_sub hl [2, 3, 1, 0] rfl) hs
      · have hs := g_t hs hc
        refine lv_aload_n hx hb dX6_resolveObjects_169 rfl (lv_at hl 1 rfl) ?_
        refine lv_iload_n hx hb dX6_resolveObjects_170 rfl (lv_at hl 2 rfl) ?_
        refine g_bind hs (fun q_8 hq_8 hs => ?_)
        refine gCV_v (As := [.int x1]) (rest := []) ⟨hx, hb, hml, hown, hts⟩ (cX6_resolveIt_c l D cy ad tL z0 hI n v_1 u x1 q_8 hq_8) (cwV 1 hts gX6_resolveObjects_X6_resolveIt rfl rfl rfl (by decide +kernel) ⟨Nat.le_of_ble_eq_true rfl, Nat.le_of_ble_eq_true rfl⟩) hK hP hS (va_recv hK.1 hP (ci := 6) (q0 := 81) rfl (gW_6 kd81)) hl.1 rfl rfl (Nat.le_of_ble_eq_true rfl) dX6_resolveObjects_171 ⟨Nat.zero_le _, Nat.zero_le _⟩ (fun H locs hP hS => ?_)
        refine lv_aload_n hx hb dX6_resolveObjects_174 rfl (lv_at hl 1 rfl) ?_
        refine va_get (D := D) (ci := 6) (v := .int (q_8 81 13)) (C := RX6) (T := TX6) (N := 17) hx hb hts iX6 hown hK.1 hP 81 (gW_6 kd81) rfl 13 (by decide) f131 (fun _ h9 => h9) rfl dX6_resolveObjects_175 ?_
        refine lv_if_ge (tgt := 185) hx hb dX6_resolveObjects_178 (by decide) (fun hc => ?_) (fun hc => ?_)
        · have hs := g_t hs hc
          refine lv_iconst (v := 1) hx hb dX6_resolveObjects_185 (by decide) ?_
          refine lv_aload_n hx hb dX6_resolveObjects_186 rfl (lv_at hl 1 rfl) ?_
          refine va_get (D := D) (ci := 6) (v := .int (q_8 81 14)) (C := RX6) (T := TX6) (N := 17) hx hb hts iX6 hown hK.1 hP 81 (gW_6 kd81) rfl 14 (by decide) f140 (fun _ h9 => h9) rfl dX6_resolveObjects_187 ?_
          refine lv_ishl hx hb dX6_resolveObjects_190 ?_
          exact gRet_i hx hb hr hlocks hK hP hS (g_some2 hs) dX6_resolveObjects_191
        · have hs := g_f hs hc
          refine lv_iconst (v := 0) hx hb dX6_resolveObjects_181 (by decide) ?_
          refine lv_goto (tgt := 191) hx hb dX6_resolveObjects_182 (by decide) ?_
          exact gRet_i hx hb hr hlocks hK hP hS (g_some2 hs) dX6_resolveObjects_191
    · have hs := g_t hs hc
      refine lv_aload_n hx hb dX6_resolveObjects_114 rfl (lv_at hl 1 rfl) ?_
      refine va_get (D := D) (ci := 6) (v := .ref (ad 84)) (C := RX6) (T := TX6) (N := 17) hx hb hts iX6 hown hK.1 hP 81 (gW_6 kd81) rfl 2 (by decide) f16 (fun _ h9 => h9) rfl dX6_resolveObjects_115 ?_
      refine lv_bipush (v := 51) hx hb dX6_resolveObjects_118 (by decide) ?_
      refine va_iald (i := 51) hx hb hK.1 hP 84 0 (gW_16 kd84) rfl (by unfold vp_in; decide) dX6_resolveObjects_120 ?_
      refine lv_aload_n hx hb dX6_resolveObjects_121 rfl (lv_at hl 1 rfl) ?_
      refine lv_iload_n hx hb dX6_resolveObjects_122 rfl (lv_at hl 2 rfl) ?_
      refine g_bind hs (fun q_9 hq_9 hs => ?_)
      refine gCV_i (As := [.int x1]) (rest := [.int (v_1 84 51)]) ⟨hx, hb, hml, hown, hts⟩ (cX6_suitableOnes_c l D cy ad tL z0 hI n v_1 u x1 q_9 hq_9) (cwV 1 hts gX6_resolveObjects_X6_suitableOnes rfl rfl rfl (by decide +kernel) ⟨Nat.le_of_ble_eq_true rfl, Nat.le_of_ble_eq_true rfl⟩) hK hP hS (va_recv hK.1 hP (ci := 6) (q0 := 81) rfl (gW_6 kd81)) hl.1 rfl rfl (Nat.le_of_ble_eq_true rfl) dX6_resolveObjects_123 ⟨Nat.zero_le _, Nat.zero_le _⟩ (fun H locs hP hS => ?_)
      refine lv_iand hx hb dX6_resolveObjects_126 ?_
      refine lv_istore_n (lv' := [(2, .int ((v_1 84 51) &&& q_9)), (0, .ref (ad 81)), (1, .int x1)]) hx hb dX6_resolveObjects_127 rfl hl (by decide) rfl (fun ls hl => ?_)
      refine lv_aload_n hx hb dX6_resolveObjects_128 rfl (lv_at hl 1 rfl) ?_
      refine lv_aload_n hx hb dX6_resolveObjects_129 rfl (lv_at hl 1 rfl) ?_
      refine va_get (D := D) (ci := 6) (v := .ref (ad 84)) (C := RX6) (T := TX6) (N := 17) hx hb hts iX6 hown hK.1 hP 81 (gW_6 kd81) rfl 2 (by decide) f16 (fun _ h9 => h9) rfl dX6_resolveObjects_130 ?_
      refine lv_bipush (v := 51) hx hb dX6_resolveObjects_133 (by decide) ?_
      refine va_iald (i := 51) hx hb hK.1 hP 84 0 (gW_16 kd84) rfl (by unfold vp_in; decide) dX6_resolveObjects_135 ?_
      refine lv_if_ne (tgt := 144) hx hb dX6_resolveObjects_136 (by decide) (fun hc => ?_) (fun hc => ?_)
      · have hs := g_f hs hc
        refine lv_iload_n hx hb dX6_resolveObjects_144 rfl (lv_at hl 0 rfl) ?_
        refine lv_if_ne (tgt := 153) hx hb dX6_resolveObjects_145 (by decide) (fun hc => ?_) (fun hc => ?_)
        · have hs := g_f hs hc
          refine lv_iconst (v := 0) hx hb dX6_resolveObjects_153 (by decide) ?_
          refine va_put (D := D) (ci := 6) (v := .int 0) (ty := .int) (C := RX6) (T := TX6) (N := 17) hx hb hts iX6 tyX6 tyX6_ok nmX6 hown hK.1 hP (gD hI) hS 81 (gW_6 kd81) rfl 13 (by decide) f131 (fun _ h9 => h9) rfl (by decide +kernel) rfl rfl (Nat.le_of_ble_eq_true rfl) dX6_resolveObjects_154 (fun H locs hP _ hS => ?_)
          refine g_let hs (fun v_10 ev_10 hs => ?_)
          have hP : va_P D vwCl (gW cy ad v_10 u) H := gPset ((gS_6_13 kd81 0).trans (congrArg (fun z => gW cy ad z u) ev_10.symm)) hP
          refine lv_iload_n hx hb dX6_resolveObjects_157 rfl (lv_at hl 0 rfl) ?_
          exact gRet_i hx hb hr hlocks hK hP hS (g_some2 hs) dX6_resolveObjects_158
        · have hs := g_t hs hc
          refine lv_bipush (v := (-3)) hx hb dX6_resolveObjects_148 (by decide) ?_
          refine lv_goto (tgt := 154) hx hb dX6_resolveObjects_150 (by decide) ?_
          refine va_put (D := D) (ci := 6) (v := .int ((-3))) (ty := .int) (C := RX6) (T := TX6) (N := 17) hx hb hts iX6 tyX6 tyX6_ok nmX6 hown hK.1 hP (gD hI) hS 81 (gW_6 kd81) rfl 13 (by decide) f131 (fun _ h9 => h9) rfl (by decide +kernel) rfl rfl (Nat.le_of_ble_eq_true rfl) dX6_resolveObjects_154 (fun H locs hP _ hS => ?_)
          refine g_let hs (fun v_11 ev_11 hs => ?_)
          have hP : va_P D vwCl (gW cy ad v_11 u) H := gPset ((gS_6_13 kd81 ((-3))).trans (congrArg (fun z => gW cy ad z u) ev_11.symm)) hP
          refine lv_iload_n hx hb dX6_resolveObjects_157 rfl (lv_at hl 0 rfl) ?_
          exact gRet_i hx hb hr hlocks hK hP hS (g_some2 hs) dX6_resolveObjects_158
      · have hs := g_t hs hc
        refine lv_bipush (v := (-4)) hx hb dX6_resolveObjects_139 (by decide) ?_
        refine lv_goto (tgt := 154) hx hb dX6_resolveObjects_141 (by decide) ?_
        refine va_put (D := D) (ci := 6) (v := .int ((-4))) (ty := .int) (C := RX6) (T := TX6) (N := 17) hx hb hts iX6 tyX6 tyX6_ok nmX6 hown hK.1 hP (gD hI) hS 81 (gW_6 kd81) rfl 13 (by decide) f131 (fun _ h9 => h9) rfl (by decide +kernel) rfl rfl (Nat.le_of_ble_eq_true rfl) dX6_resolveObjects_154 (fun H locs hP _ hS => ?_)
        refine g_let hs (fun v_12 ev_12 hs => ?_)
        have hP : va_P D vwCl (gW cy ad v_12 u) H := gPset ((gS_6_13 kd81 ((-4))).trans (congrArg (fun z => gW cy ad z u) ev_12.symm)) hP
        refine lv_iload_n hx hb dX6_resolveObjects_157 rfl (lv_at hl 0 rfl) ?_
        exact gRet_i hx hb hr hlocks hK hP hS (g_some2 hs) dX6_resolveObjects_158
  · have hs := g_t hs hc
    refine lv_aload_n hx hb dX6_resolveObjects_17 rfl (lv_at hl 1 rfl) ?_
    refine lv_iload_n hx hb dX6_resolveObjects_18 rfl (lv_at hl 2 rfl) ?_
    refine g_bind hs (fun q_13 hq_13 hs => ?_)
    refine gCV_i (As := [.int x1]) (rest := []) ⟨hx, hb, hml, hown, hts⟩ (cX6_suitableOnes_c l D cy ad tL z0 hI n v_1 u x1 q_13 hq_13) (cwV 1 hts gX6_resolveObjects_X6_suitableOnes rfl rfl rfl (by decide +kernel) ⟨Nat.le_of_ble_eq_true rfl, Nat.le_of_ble_eq_true rfl⟩) hK hP hS (va_recv hK.1 hP (ci := 6) (q0 := 81) rfl (gW_6 kd81)) hl.1 rfl rfl (Nat.le_of_ble_eq_true rfl) dX6_resolveObjects_19 ⟨Nat.zero_le _, Nat.zero_le _⟩ (fun H locs hP hS => ?_)
    refine lv_istore_n (lv' := [(2, .int q_13), (0, .ref (ad 81)), (1, .int x1)]) hx hb dX6_resolveObjects_22 rfl hl (by decide) rfl (fun ls hl => ?_)
    refine lv_aload_n hx hb dX6_resolveObjects_23 rfl (lv_at hl 1 rfl) ?_
    refine lv_iconst (v := 2) hx hb dX6_resolveObjects_24 (by decide) ?_
    refine va_put (D := D) (ci := 6) (v := .int 2) (ty := .int) (C := RX6) (T := TX6) (N := 17) hx hb hts iX6 tyX6 tyX6_ok nmX6 hown hK.1 hP (gD hI) hS 81 (gW_6 kd81) rfl 12 (by decide) f106 (fun _ h9 => h9) rfl (by decide +kernel) rfl rfl (Nat.le_of_ble_eq_true rfl) dX6_resolveObjects_25 (fun H locs hP _ hS => ?_)
    refine g_let hs (fun v_14 ev_14 hs => ?_)
    have hP : va_P D vwCl (gW cy ad v_14 u) H := gPset ((gS_6_12 kd81 2).trans (congrArg (fun z => gW cy ad z u) ev_14.symm)) hP
    exact hL_28 n v_14 q_13 _ _ _ hP hS (lv_sub hl [1, 0] rfl) hs
set_option maxHeartbeats 4000000 in
set_option maxRecDepth 100000 in
theorem cX6_resolveTarget_c (l : Launch) (D : va_G) (cy : Nat → ClassId) (ad : Nat → Nat) (tL z0 : Nat) (hI : gI z0 ad) (n : Nat) (v : gV) (u : Int64) (r0 : Int32) (v1 : gV) (hs : sX6_resolveTarget n v = some (r0, v1)) : Met l yX6_resolveTarget wsX6_resolveTarget ({ frames := 6, cells := 0, slots := 0, locals := 134 } : Room) (gPc D cy ad tL z0 v u [.ref (ad 81)]) (gQi D cy ad tL z0 v1 u r0) 0 0 (gA z0) := by
  refine Met.ofW (cc := cX6_resolveTarget) (maxL := 1) (ret := (some .int)) (by decide) rfl ?_
  intro p e s m args below meth c s₁ B hml hv
  obtain ⟨rfl, hB0⟩ := hv
  have hP : va_P D vwCl (gW cy ad v u) s.heap := hB0.1
  have hK : gK D cy tL z0 s s.heap := hB0.2
  have hx := B.exec
  have hb := B.bytes
  have hr := B.returns
  have hts := atoms_spec (ws := wsX6_resolveTarget) B.pre
  have hown : s.vm.findClass RX6 = some m.cls := findClass_of_methodNamed B.named
  have hlocks := B.notSynchronized
  have hS : va_S (gA z0) s.heap s.heap [] := va_S.rf
  have hl := lv_entry ([.ref (ad 81)]) (n := 1) (Nat.le_of_ble_eq_true rfl)
  rw [lg_entry_eq]
  generalize (lg_sl ([.ref (ad 81)]) ++ List.replicate (1 - (lg_sl ([.ref (ad 81)])).length) Slot.unset).toArray = ls at hl ⊢
  have hl : lv_has ls 1 [(0, .ref (ad 81))] := hl
  have iX6 := (show ∀ w ∈ u_ws RX6 TX6 17, w ∈ wsX6_resolveTarget by decide +kernel)
  have f106 := hts (.fieldLink RX6 106 "AdventureParserModel" "place" "I") (by decide +kernel)
  have f140 := hts (.fieldLink RX6 140 "AdventureParserModel" "found" "I") (by decide +kernel)
  clear hB0
  have hL_5 : ∀ (k : Nat), ∀ (v : gV)  (H : Heap) (locs : List Loc) (ls : Array Slot), va_P D vwCl (gW cy ad v u) H → va_S (gA z0) s.heap H locs → lv_has ls 1 [(0, .ref (ad 81))] → sX6_resolveTarget_5 n k v = some (r0, v1) → W p l e (headSpec wsX6_resolveTarget ({ frames := 6, cells := 0, slots := 0, locals := 134 } : Room)).room s m ([.ref (ad 81)] : List Value).toArray below meth c H locs 0 0 (MQ below (gQi D cy ad tL z0 v1 u r0) ([.ref (ad 81)] : List Value).toArray s 0 0 (gA z0)) (F0 m 5 ls []) := by
    intro k
    induction k with
    | zero =>
      intro v H locs ls hP hS hl hs
      exact g_none hs
    | succ k ih =>
      intro v H locs ls hP hS hl hs
      rw [sX6_resolveTarget_5] at hs
      refine lv_aload_n hx hb dX6_resolveTarget_5 rfl (lv_at hl 0 rfl) ?_
      refine lv_aload_n hx hb dX6_resolveTarget_6 rfl (lv_at hl 0 rfl) ?_
      refine va_get (D := D) (ci := 6) (v := .int (v 81 12)) (C := RX6) (T := TX6) (N := 17) hx hb hts iX6 hown hK.1 hP 81 (gW_6 kd81) rfl 12 (by decide) f106 (fun _ h9 => h9) rfl dX6_resolveTarget_7 ?_
      refine g_bind hs (fun q_2 hq_2 hs => ?_)
      refine gCV_i (As := [.int (v 81 12)]) (rest := []) ⟨hx, hb, hml, hown, hts⟩ (cX6_word_c l D cy ad tL z0 hI v u (v 81 12) q_2 hq_2) (cwV 1 hts gX6_resolveTarget_X6_word rfl rfl rfl (by decide +kernel) ⟨Nat.le_of_ble_eq_true rfl, Nat.le_of_ble_eq_true rfl⟩) hK hP hS (va_recv hK.1 hP (ci := 6) (q0 := 81) rfl (gW_6 kd81)) hl.1 rfl rfl (Nat.le_of_ble_eq_true rfl) dX6_resolveTarget_10 ⟨Nat.zero_le _, Nat.zero_le _⟩ (fun H locs hP hS => ?_)
      refine lv_bipush (v := 20) hx hb dX6_resolveTarget_13 (by decide) ?_
      refine lv_icmp_eq (tgt := 31) hx hb dX6_resolveTarget_15 (by decide) (fun hc => ?_) (fun hc => ?_)
      · have hs := g_t hs hc
        refine lv_aload_n hx hb dX6_resolveTarget_31 rfl (lv_at hl 0 rfl) ?_
        refine lv_dup hx hb dX6_resolveTarget_32 rfl ?_
        refine va_get (D := D) (ci := 6) (v := .int (v 81 12)) (C := RX6) (T := TX6) (N := 17) hx hb hts iX6 hown hK.1 hP 81 (gW_6 kd81) rfl 12 (by decide) f106 (fun _ h9 => h9) rfl dX6_resolveTarget_33 ?_
        refine lv_iconst (v := 1) hx hb dX6_resolveTarget_36 (by decide) ?_
        refine lv_iadd hx hb dX6_resolveTarget_37 ?_
        refine va_put (D := D) (ci := 6) (v := .int ((v 81 12) + 1)) (ty := .int) (C := RX6) (T := TX6) (N := 17) hx hb hts iX6 tyX6 tyX6_ok nmX6 hown hK.1 hP (gD hI) hS 81 (gW_6 kd81) rfl 12 (by decide) f106 (fun _ h9 => h9) rfl (by decide +kernel) rfl rfl (Nat.le_of_ble_eq_true rfl) dX6_resolveTarget_38 (fun H locs hP _ hS => ?_)
        refine g_let hs (fun v_3 ev_3 hs => ?_)
        have hP : va_P D vwCl (gW cy ad v_3 u) H := gPset ((gS_6_12 kd81 ((v 81 12) + 1)).trans (congrArg (fun z => gW cy ad z u) ev_3.symm)) hP
        refine lv_aload_n hx hb dX6_resolveTarget_41 rfl (lv_at hl 0 rfl) ?_
        refine lv_aload_n hx hb dX6_resolveTarget_42 rfl (lv_at hl 0 rfl) ?_
        refine va_get (D := D) (ci := 6) (v := .int (v_3 81 12)) (C := RX6) (T := TX6) (N := 17) hx hb hts iX6 hown hK.1 hP 81 (gW_6 kd81) rfl 12 (by decide) f106 (fun _ h9 => h9) rfl dX6_resolveTarget_43 ?_
        refine g_bind hs (fun q_4 hq_4 hs => ?_)
        refine gCV_i (As := [.int (v_3 81 12)]) (rest := []) ⟨hx, hb, hml, hown, hts⟩ (cX6_word_c l D cy ad tL z0 hI v_3 u (v_3 81 12) q_4 hq_4) (cwV 1 hts gX6_resolveTarget_X6_word rfl rfl rfl (by decide +kernel) ⟨Nat.le_of_ble_eq_true rfl, Nat.le_of_ble_eq_true rfl⟩) hK hP hS (va_recv hK.1 hP (ci := 6) (q0 := 81) rfl (gW_6 kd81)) hl.1 rfl rfl (Nat.le_of_ble_eq_true rfl) dX6_resolveTarget_46 ⟨Nat.zero_le _, Nat.zero_le _⟩ (fun H locs hP hS => ?_)
        refine lv_bipush (v := 22) hx hb dX6_resolveTarget_49 (by decide) ?_
        refine lv_icmp_ne (tgt := 62) hx hb dX6_resolveTarget_51 (by decide) (fun hc => ?_) (fun hc => ?_)
        · have hs := g_f hs hc
          refine lv_aload_n hx hb dX6_resolveTarget_62 rfl (lv_at hl 0 rfl) ?_
          refine lv_iconst (v := (-1)) hx hb dX6_resolveTarget_63 (by decide) ?_
          refine g_bind hs (fun q_5 hq_5 hs => ?_)
          refine gCV_v (As := [.int ((-1))]) (rest := []) ⟨hx, hb, hml, hown, hts⟩ (cX6_describe_c l D cy ad tL z0 hI n v_3 u ((-1)) q_5 hq_5) (cwV 1 hts gX6_resolveTarget_X6_describe rfl rfl rfl (by decide +kernel) ⟨Nat.le_of_ble_eq_true rfl, Nat.le_of_ble_eq_true rfl⟩) hK hP hS (va_recv hK.1 hP (ci := 6) (q0 := 81) rfl (gW_6 kd81)) hl.1 rfl rfl (Nat.le_of_ble_eq_true rfl) dX6_resolveTarget_64 ⟨Nat.zero_le _, Nat.zero_le _⟩ (fun H locs hP hS => ?_)
          refine lv_aload_n hx hb dX6_resolveTarget_67 rfl (lv_at hl 0 rfl) ?_
          refine va_get (D := D) (ci := 6) (v := .int (q_5 81 14)) (C := RX6) (T := TX6) (N := 17) hx hb hts iX6 hown hK.1 hP 81 (gW_6 kd81) rfl 14 (by decide) f140 (fun _ h9 => h9) rfl dX6_resolveTarget_68 ?_
          exact gRet_i hx hb hr hlocks hK hP hS (g_some2 hs) dX6_resolveTarget_71
        · have hs := g_t hs hc
          refine lv_aload_n hx hb dX6_resolveTarget_54 rfl (lv_at hl 0 rfl) ?_
          refine lv_iconst (v := (-1)) hx hb dX6_resolveTarget_55 (by decide) ?_
          refine g_bind hs (fun q_6 hq_6 hs => ?_)
          refine gCV_v (As := [.int ((-1))]) (rest := []) ⟨hx, hb, hml, hown, hts⟩ (cX6_resolveIt_c l D cy ad tL z0 hI n v_3 u ((-1)) q_6 hq_6) (cwV 1 hts gX6_resolveTarget_X6_resolveIt rfl rfl rfl (by decide +kernel) ⟨Nat.le_of_ble_eq_true rfl, Nat.le_of_ble_eq_true rfl⟩) hK hP hS (va_recv hK.1 hP (ci := 6) (q0 := 81) rfl (gW_6 kd81)) hl.1 rfl rfl (Nat.le_of_ble_eq_true rfl) dX6_resolveTarget_56 ⟨Nat.zero_le _, Nat.zero_le _⟩ (fun H locs hP hS => ?_)
          refine lv_goto (tgt := 67) hx hb dX6_resolveTarget_59 (by decide) ?_
          refine lv_aload_n hx hb dX6_resolveTarget_67 rfl (lv_at hl 0 rfl) ?_
          refine va_get (D := D) (ci := 6) (v := .int (q_6 81 14)) (C := RX6) (T := TX6) (N := 17) hx hb hts iX6 hown hK.1 hP 81 (gW_6 kd81) rfl 14 (by decide) f140 (fun _ h9 => h9) rfl dX6_resolveTarget_68 ?_
          exact gRet_i hx hb hr hlocks hK hP hS (g_some2 hs) dX6_resolveTarget_71
      · have hs := g_f hs hc
        refine lv_aload_n hx hb dX6_resolveTarget_18 rfl (lv_at hl 0 rfl) ?_
        refine lv_dup hx hb dX6_resolveTarget_19 rfl ?_
        refine va_get (D := D) (ci := 6) (v := .int (v 81 12)) (C := RX6) (T := TX6) (N := 17) hx hb hts iX6 hown hK.1 hP 81 (gW_6 kd81) rfl 12 (by decide) f106 (fun _ h9 => h9) rfl dX6_resolveTarget_20 ?_
        refine lv_iconst (v := 1) hx hb dX6_resolveTarget_23 (by decide) ?_
        refine lv_iadd hx hb dX6_resolveTarget_24 ?_
        refine va_put (D := D) (ci := 6) (v := .int ((v 81 12) + 1)) (ty := .int) (C := RX6) (T := TX6) (N := 17) hx hb hts iX6 tyX6 tyX6_ok nmX6 hown hK.1 hP (gD hI) hS 81 (gW_6 kd81) rfl 12 (by decide) f106 (fun _ h9 => h9) rfl (by decide +kernel) rfl rfl (Nat.le_of_ble_eq_true rfl) dX6_resolveTarget_25 (fun H locs hP _ hS => ?_)
        refine g_let hs (fun v_7 ev_7 hs => ?_)
        have hP : va_P D vwCl (gW cy ad v_7 u) H := gPset ((gS_6_12 kd81 ((v 81 12) + 1)).trans (congrArg (fun z => gW cy ad z u) ev_7.symm)) hP
        refine lv_goto (tgt := 5) hx hb dX6_resolveTarget_28 (by decide) ?_
        exact ih v_7 _ _ _ hP hS (lv_sub hl [0] rfl) hs
  unfold sX6_resolveTarget at hs
  refine lv_aload_n hx hb dX6_resolveTarget_0 rfl (lv_at hl 0 rfl) ?_
  refine lv_iconst (v := 0) hx hb dX6_resolveTarget_1 (by decide) ?_
  refine va_put (D := D) (ci := 6) (v := .int 0) (ty := .int) (C := RX6) (T := TX6) (N := 17) hx hb hts iX6 tyX6 tyX6_ok nmX6 hown hK.1 hP (gD hI) hS 81 (gW_6 kd81) rfl 12 (by decide) f106 (fun _ h9 => h9) rfl (by decide +kernel) rfl rfl (Nat.le_of_ble_eq_true rfl) dX6_resolveTarget_2 (fun H locs hP _ hS => ?_)
  refine g_let hs (fun v_1 ev_1 hs => ?_)
  have hP : va_P D vwCl (gW cy ad v_1 u) H := gPset ((gS_6_12 kd81 0).trans (congrArg (fun z => gW cy ad z u) ev_1.symm)) hP
  exact hL_5 n v_1 _ _ _ hP hS (lv_sub hl [0] rfl) hs
set_option maxHeartbeats 4000000 in
set_option maxRecDepth 100000 in
theorem cX6_does_c (l : Launch) (D : va_G) (cy : Nat → ClassId) (ad : Nat → Nat) (tL z0 : Nat) (hI : gI z0 ad) (n : Nat) (v : gV) (u : Int64) (x1 : Int32) (x2 : Int32) (x3 : Int32) (r0 : Int32) (v1 : gV) (hs : sX6_does n v x1 x2 x3 = some (r0, v1)) : Met l yX6_does wsX6_does ({ frames := 2, cells := 0, slots := 0, locals := 45 } : Room) (gPc D cy ad tL z0 v u [.ref (ad 81), .int x1, .int x2, .int x3]) (gQi D cy ad tL z0 v1 u r0) 0 0 (gA z0) := by
  refine Met.ofW (cc := cX6_does) (maxL := 6) (ret := (some .boolean)) (by decide) rfl ?_
  intro p e s m args below meth c s₁ B hml hv
  obtain ⟨rfl, hB0⟩ := hv
  have hP : va_P D vwCl (gW cy ad v u) s.heap := hB0.1
  have hK : gK D cy tL z0 s s.heap := hB0.2
  have hx := B.exec
  have hb := B.bytes
  have hr := B.returns
  have hts := atoms_spec (ws := wsX6_does) B.pre
  have hown : s.vm.findClass RX6 = some m.cls := findClass_of_methodNamed B.named
  have hlocks := B.notSynchronized
  have hS : va_S (gA z0) s.heap s.heap [] := va_S.rf
  have hl := lv_entry ([.ref (ad 81), .int x1, .int x2, .int x3]) (n := 6) (Nat.le_of_ble_eq_true rfl)
  rw [lg_entry_eq]
  generalize (lg_sl ([.ref (ad 81), .int x1, .int x2, .int x3]) ++ List.replicate (6 - (lg_sl ([.ref (ad 81), .int x1, .int x2, .int x3])).length) Slot.unset).toArray = ls at hl ⊢
  have hl : lv_has ls 6 [(0, .ref (ad 81)), (1, .int x1), (2, .int x2), (3, .int x3)] := hl
  have iX6 := (show ∀ w ∈ u_ws RX6 TX6 17, w ∈ wsX6_does by decide +kernel)
  have f16 := hts (.fieldLink RX6 16 "AdventureParserModel" "s" "[I") (by decide +kernel)
  clear hB0
  have hJ_96 : ∀ (v : gV) (w1 : Int32) (w2 : Int32) (w5 : Int32) (H : Heap) (locs : List Loc) (ls : Array Slot), va_P D vwCl (gW cy ad v u) H → va_S (gA z0) s.heap H locs → lv_has ls 6 [(0, .ref (ad 81)), (1, .int w1), (2, .int w2), (5, .int w5)] → sX6_does_96 n v w1 w2 w5 = some (r0, v1) → W p l e (headSpec wsX6_does ({ frames := 2, cells := 0, slots := 0, locals := 45 } : Room)).room s m ([.ref (ad 81), .int x1, .int x2, .int x3] : List Value).toArray below meth c H locs 0 0 (MQ below (gQi D cy ad tL z0 v1 u r0) ([.ref (ad 81), .int x1, .int x2, .int x3] : List Value).toArray s 0 0 (gA z0)) (F0 m 96 ls []) := by
    intro v w1 w2 w5 H locs ls hP hS hl hs
    unfold sX6_does_96 at hs
    refine lv_iload_n hx hb dX6_does_96 rfl (lv_at hl 1 rfl) ?_
    refine lv_iconst (v := 2) hx hb dX6_does_97 (by decide) ?_
    refine lv_icmp_le (tgt := 123) hx hb dX6_does_98 (by decide) (fun hc => ?_) (fun hc => ?_)
    · have hs := g_t hs hc
      refine lv_iload hx hb dX6_does_123 (lv_at hl 3 rfl) ?_
      refine g_chk hs (fun hc hs => ?_)
      exact gRet_z hx hb hr hlocks (g_nz hc) hK hP hS (g_some2 hs) dX6_does_125
    · have hs := g_f hs hc
      refine lv_aload_n hx hb dX6_does_101 rfl (lv_at hl 0 rfl) ?_
      refine va_get (D := D) (ci := 6) (v := .ref (ad 84)) (C := RX6) (T := TX6) (N := 17) hx hb hts iX6 hown hK.1 hP 81 (gW_6 kd81) rfl 2 (by decide) f16 (fun _ h9 => h9) rfl dX6_does_102 ?_
      refine lv_iconst (v := 1) hx hb dX6_does_105 (by decide) ?_
      refine lv_iconst (v := 4) hx hb dX6_does_106 (by decide) ?_
      refine lv_iload_n hx hb dX6_does_107 rfl (lv_at hl 2 rfl) ?_
      refine lv_imul hx hb dX6_does_108 ?_
      refine lv_iadd hx hb dX6_does_109 ?_
      refine lv_iconst (v := 3) hx hb dX6_does_110 (by decide) ?_
      refine lv_iadd hx hb dX6_does_111 ?_
      refine lv_iload_n hx hb dX6_does_112 rfl (lv_at hl 1 rfl) ?_
      refine lv_iconst (v := 3) hx hb dX6_does_113 (by decide) ?_
      refine lv_icmp_ne (tgt := 121) hx hb dX6_does_114 (by decide) (fun hc => ?_) (fun hc => ?_)
      · have hs := g_f hs hc
        refine lv_iconst (v := 0) hx hb dX6_does_121 (by decide) ?_
        refine g_chk hs (fun hc hs => ?_)
        refine va_iast hx hb hK.1 hP (gD hI) hS 84 0 (gW_16 kd84) rfl hc dX6_does_122 (fun H locs hP _ hS => ?_)
        refine g_let hs (fun v_1 ev_1 hs => ?_)
        have hP : va_P D vwCl (gW cy ad v_1 u) H := gPset ((gS_16 kd84 ((1 + (4 * w2)) + 3).toNatClampNeg 0).trans (congrArg (fun z => gW cy ad z u) ev_1.symm)) hP
        refine lv_iload hx hb dX6_does_123 (lv_at hl 3 rfl) ?_
        refine g_chk hs (fun hc hs => ?_)
        exact gRet_z hx hb hr hlocks (g_nz hc) hK hP hS (g_some2 hs) dX6_does_125
      · have hs := g_t hs hc
        refine lv_iconst (v := 1) hx hb dX6_does_117 (by decide) ?_
        refine lv_goto (tgt := 122) hx hb dX6_does_118 (by decide) ?_
        refine g_chk hs (fun hc hs => ?_)
        refine va_iast hx hb hK.1 hP (gD hI) hS 84 0 (gW_16 kd84) rfl hc dX6_does_122 (fun H locs hP _ hS => ?_)
        refine g_let hs (fun v_2 ev_2 hs => ?_)
        have hP : va_P D vwCl (gW cy ad v_2 u) H := gPset ((gS_16 kd84 ((1 + (4 * w2)) + 3).toNatClampNeg 1).trans (congrArg (fun z => gW cy ad z u) ev_2.symm)) hP
        refine lv_iload hx hb dX6_does_123 (lv_at hl 3 rfl) ?_
        refine g_chk hs (fun hc hs => ?_)
        exact gRet_z hx hb hr hlocks (g_nz hc) hK hP hS (g_some2 hs) dX6_does_125
  have hJ_70 : ∀ (v : gV) (w1 : Int32) (w2 : Int32) (w4 : Int32) (t0 : Int32) (H : Heap) (locs : List Loc) (ls : Array Slot), va_P D vwCl (gW cy ad v u) H → va_S (gA z0) s.heap H locs → lv_has ls 6 [(0, .ref (ad 81)), (1, .int w1), (2, .int w2), (4, .int w4)] → sX6_does_70 n v w1 w2 w4 t0 = some (r0, v1) → W p l e (headSpec wsX6_does ({ frames := 2, cells := 0, slots := 0, locals := 45 } : Room)).room s m ([.ref (ad 81), .int x1, .int x2, .int x3] : List Value).toArray below meth c H locs 0 0 (MQ below (gQi D cy ad tL z0 v1 u r0) ([.ref (ad 81), .int x1, .int x2, .int x3] : List Value).toArray s 0 0 (gA z0)) (F0 m 70 ls [.int t0]) := by
    intro v w1 w2 w4 t0 H locs ls hP hS hl hs
    unfold sX6_does_70 at hs
    refine lv_istore (lv' := [(5, .int t0), (0, .ref (ad 81)), (1, .int w1), (2, .int w2), (4, .int w4)]) hx hb dX6_does_70 hl (by decide) rfl (fun ls hl => ?_)
    refine lv_iload hx hb dX6_does_72 (lv_at hl 0 rfl) ?_
    refine lv_if_eq (tgt := 96) hx hb dX6_does_74 (by decide) (fun hc => ?_) (fun hc => ?_)
    · have hs := g_t hs hc
      exact hJ_96 v w1 w2 t0 _ _ _ hP hS (lv_sub hl [1, 2, 3, 0] rfl) hs
    · have hs := g_f hs hc
      refine lv_iload_n hx hb dX6_does_77 rfl (lv_at hl 2 rfl) ?_
      refine lv_iconst (v := 2) hx hb dX6_does_78 (by decide) ?_
      refine lv_icmp_gt (tgt := 96) hx hb dX6_does_79 (by decide) (fun hc => ?_) (fun hc => ?_)
      · have hs := g_t hs hc
        exact hJ_96 v w1 w2 t0 _ _ _ hP hS (lv_sub hl [1, 2, 3, 0] rfl) hs
      · have hs := g_f hs hc
        refine lv_aload_n hx hb dX6_does_82 rfl (lv_at hl 1 rfl) ?_
        refine va_get (D := D) (ci := 6) (v := .ref (ad 84)) (C := RX6) (T := TX6) (N := 17) hx hb hts iX6 hown hK.1 hP 81 (gW_6 kd81) rfl 2 (by decide) f16 (fun _ h9 => h9) rfl dX6_does_83 ?_
        refine lv_iconst (v := 1) hx hb dX6_does_86 (by decide) ?_
        refine lv_iconst (v := 4) hx hb dX6_does_87 (by decide) ?_
        refine lv_iload_n hx hb dX6_does_88 rfl (lv_at hl 3 rfl) ?_
        refine lv_imul hx hb dX6_does_89 ?_
        refine lv_iadd hx hb dX6_does_90 ?_
        refine lv_iconst (v := 2) hx hb dX6_does_91 (by decide) ?_
        refine lv_iadd hx hb dX6_does_92 ?_
        refine lv_iload hx hb dX6_does_93 (lv_at hl 4 rfl) ?_
        refine g_chk hs (fun hc hs => ?_)
        refine va_iast hx hb hK.1 hP (gD hI) hS 84 0 (gW_16 kd84) rfl hc dX6_does_95 (fun H locs hP _ hS => ?_)
        refine g_let hs (fun v_3 ev_3 hs => ?_)
        have hP : va_P D vwCl (gW cy ad v_3 u) H := gPset ((gS_16 kd84 ((1 + (4 * w2)) + 2).toNatClampNeg w4).trans (congrArg (fun z => gW cy ad z u) ev_3.symm)) hP
        exact hJ_96 v_3 w1 w2 t0 _ _ _ hP hS (lv_sub hl [1, 2, 3, 0] rfl) hs
  have hJ_26 : ∀ (v : gV) (w1 : Int32) (w2 : Int32) (t0 : Int32) (H : Heap) (locs : List Loc) (ls : Array Slot), va_P D vwCl (gW cy ad v u) H → va_S (gA z0) s.heap H locs → lv_has ls 6 [(0, .ref (ad 81)), (1, .int w1), (2, .int w2)] → sX6_does_26 n v w1 w2 t0 = some (r0, v1) → W p l e (headSpec wsX6_does ({ frames := 2, cells := 0, slots := 0, locals := 45 } : Room)).room s m ([.ref (ad 81), .int x1, .int x2, .int x3] : List Value).toArray below meth c H locs 0 0 (MQ below (gQi D cy ad tL z0 v1 u r0) ([.ref (ad 81), .int x1, .int x2, .int x3] : List Value).toArray s 0 0 (gA z0)) (F0 m 26 ls [.int t0]) := by
    intro v w1 w2 t0 H locs ls hP hS hl hs
    unfold sX6_does_26 at hs
    refine lv_istore (lv' := [(4, .int t0), (0, .ref (ad 81)), (1, .int w1), (2, .int w2)]) hx hb dX6_does_26 hl (by decide) rfl (fun ls hl => ?_)
    refine lv_iload_n hx hb dX6_does_28 rfl (lv_at hl 2 rfl) ?_
    refine lv_if_ne (tgt := 50) hx hb dX6_does_29 (by decide) (fun hc => ?_) (fun hc => ?_)
    · have hs := g_f hs hc
      refine lv_iload_n hx hb dX6_does_50 rfl (lv_at hl 2 rfl) ?_
      refine lv_iconst (v := 2) hx hb dX6_does_51 (by decide) ?_
      refine lv_icmp_ne (tgt := 65) hx hb dX6_does_52 (by decide) (fun hc => ?_) (fun hc => ?_)
      · have hs := g_f hs hc
        refine lv_iconst (v := 1) hx hb dX6_does_65 (by decide) ?_
        refine lv_goto (tgt := 70) hx hb dX6_does_66 (by decide) ?_
        exact hJ_70 v w1 w2 t0 1 _ _ _ hP hS (lv_sub hl [1, 2, 3, 0] rfl) hs
      · have hs := g_t hs hc
        refine lv_aload_n hx hb dX6_does_55 rfl (lv_at hl 1 rfl) ?_
        refine lv_iload hx hb dX6_does_56 (lv_at hl 0 rfl) ?_
        refine g_bind hs (fun q_4 hq_4 hs => ?_)
        refine gCV_i (As := [.int t0]) (rest := []) ⟨hx, hb, hml, hown, hts⟩ (cX6_at_c l D cy ad tL z0 hI n v u t0 q_4 hq_4) (cwV 1 hts gX6_does_X6_at rfl rfl rfl (by decide +kernel) ⟨Nat.le_of_ble_eq_true rfl, Nat.le_of_ble_eq_true rfl⟩) hK hP hS (va_recv hK.1 hP (ci := 6) (q0 := 81) rfl (gW_6 kd81)) hl.1 rfl rfl (Nat.le_of_ble_eq_true rfl) dX6_does_58 ⟨Nat.zero_le _, Nat.zero_le _⟩ (fun H locs hP hS => ?_)
        refine lv_iconst (v := 4) hx hb dX6_does_61 (by decide) ?_
        refine lv_icmp_ge (tgt := 69) hx hb dX6_does_62 (by decide) (fun hc => ?_) (fun hc => ?_)
        · have hs := g_t hs hc
          refine lv_iconst (v := 0) hx hb dX6_does_69 (by decide) ?_
          exact hJ_70 v w1 w2 t0 0 _ _ _ hP hS (lv_sub hl [1, 2, 3, 0] rfl) hs
        · have hs := g_f hs hc
          refine lv_iconst (v := 1) hx hb dX6_does_65 (by decide) ?_
          refine lv_goto (tgt := 70) hx hb dX6_does_66 (by decide) ?_
          exact hJ_70 v w1 w2 t0 1 _ _ _ hP hS (lv_sub hl [1, 2, 3, 0] rfl) hs
    · have hs := g_t hs hc
      refine lv_aload_n hx hb dX6_does_32 rfl (lv_at hl 1 rfl) ?_
      refine lv_iconst (v := 4) hx hb dX6_does_33 (by decide) ?_
      refine g_bind hs (fun q_5 hq_5 hs => ?_)
      refine gCV_i (As := [.int 4]) (rest := []) ⟨hx, hb, hml, hown, hts⟩ (cX6_at_c l D cy ad tL z0 hI n v u 4 q_5 hq_5) (cwV 1 hts gX6_does_X6_at rfl rfl rfl (by decide +kernel) ⟨Nat.le_of_ble_eq_true rfl, Nat.le_of_ble_eq_true rfl⟩) hK hP hS (va_recv hK.1 hP (ci := 6) (q0 := 81) rfl (gW_6 kd81)) hl.1 rfl rfl (Nat.le_of_ble_eq_true rfl) dX6_does_34 ⟨Nat.zero_le _, Nat.zero_le _⟩ (fun H locs hP hS => ?_)
      refine lv_bipush (v := 6) hx hb dX6_does_37 (by decide) ?_
      refine lv_icmp_ge (tgt := 46) hx hb dX6_does_39 (by decide) (fun hc => ?_) (fun hc => ?_)
      · have hs := g_t hs hc
        refine lv_iconst (v := 0) hx hb dX6_does_46 (by decide) ?_
        refine lv_goto (tgt := 70) hx hb dX6_does_47 (by decide) ?_
        exact hJ_70 v w1 w2 t0 0 _ _ _ hP hS (lv_sub hl [1, 2, 3, 0] rfl) hs
      · have hs := g_f hs hc
        refine lv_iconst (v := 1) hx hb dX6_does_42 (by decide) ?_
        refine lv_goto (tgt := 70) hx hb dX6_does_43 (by decide) ?_
        exact hJ_70 v w1 w2 t0 1 _ _ _ hP hS (lv_sub hl [1, 2, 3, 0] rfl) hs
  unfold sX6_does at hs
  refine lv_iload_n hx hb dX6_does_0 rfl (lv_at hl 1 rfl) ?_
  refine lv_if_ne (tgt := 8) hx hb dX6_does_1 (by decide) (fun hc => ?_) (fun hc => ?_)
  · have hs := g_f hs hc
    refine lv_iload_n hx hb dX6_does_8 rfl (lv_at hl 1 rfl) ?_
    refine lv_iconst (v := 1) hx hb dX6_does_9 (by decide) ?_
    refine lv_icmp_ne (tgt := 23) hx hb dX6_does_10 (by decide) (fun hc => ?_) (fun hc => ?_)
    · have hs := g_f hs hc
      refine lv_iconst (v := 5) hx hb dX6_does_23 (by decide) ?_
      refine lv_iload_n hx hb dX6_does_24 rfl (lv_at hl 3 rfl) ?_
      refine lv_iadd hx hb dX6_does_25 ?_
      exact hJ_26 v x1 x2 (5 + x3) _ _ _ hP hS (lv_sub hl [0, 1, 2] rfl) hs
    · have hs := g_t hs hc
      refine lv_aload_n hx hb dX6_does_13 rfl (lv_at hl 0 rfl) ?_
      refine va_get (D := D) (ci := 6) (v := .ref (ad 84)) (C := RX6) (T := TX6) (N := 17) hx hb hts iX6 hown hK.1 hP 81 (gW_6 kd81) rfl 2 (by decide) f16 (fun _ h9 => h9) rfl dX6_does_14 ?_
      refine lv_bipush (v := 49) hx hb dX6_does_17 (by decide) ?_
      refine va_iald (i := 49) hx hb hK.1 hP 84 0 (gW_16 kd84) rfl (by unfold vp_in; decide) dX6_does_19 ?_
      refine lv_goto (tgt := 26) hx hb dX6_does_20 (by decide) ?_
      exact hJ_26 v x1 x2 (v 84 49) _ _ _ hP hS (lv_sub hl [0, 1, 2] rfl) hs
  · have hs := g_t hs hc
    refine lv_iconst (v := 4) hx hb dX6_does_4 (by decide) ?_
    refine lv_goto (tgt := 26) hx hb dX6_does_5 (by decide) ?_
    exact hJ_26 v x1 x2 4 _ _ _ hP hS (lv_sub hl [0, 1, 2] rfl) hs
