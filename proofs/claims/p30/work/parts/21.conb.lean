set_option maxHeartbeats 4000000 in
set_option maxRecDepth 100000 in
theorem cX3_isAsking_c (l : Launch) (D : va_G) (cy : Nat → ClassId) (ad : Nat → Nat) (tL z0 : Nat) (hI : gI z0 ad) (v : gV) (u : Int64) (a0 : Nat) (r0 : Int32) (hk0 : kd a0 = 3) (hs : sX3_isAsking v a0 = some r0) : Met l yX3_isAsking wsX3_isAsking ({ frames := 0, cells := 0, slots := 0, locals := 0 } : Room) (gPc D cy ad tL z0 v u [.ref (ad a0)]) (gQi D cy ad tL z0 v u r0) 0 0 (gA z0) := by
  refine Met.ofW (cc := cX3_isAsking) (maxL := 1) (ret := (some .boolean)) (by decide) rfl ?_
  intro p e s m args below meth c s₁ B hml hv
  obtain ⟨rfl, hB0⟩ := hv
  have hP : va_P D vwCl (gW cy ad v u) s.heap := hB0.1
  have hK : gK D cy tL z0 s s.heap := hB0.2
  have hx := B.exec
  have hb := B.bytes
  have hr := B.returns
  have hts := atoms_spec (ws := wsX3_isAsking) B.pre
  have hown : s.vm.findClass RX3 = some m.cls := findClass_of_methodNamed B.named
  have hlocks := B.notSynchronized
  have hS : va_S (gA z0) s.heap s.heap [] := va_S.rf
  have hl := lv_entry ([.ref (ad a0)]) (n := 1) (Nat.le_of_ble_eq_true rfl)
  rw [lg_entry_eq]
  generalize (lg_sl ([.ref (ad a0)]) ++ List.replicate (1 - (lg_sl ([.ref (ad a0)])).length) Slot.unset).toArray = ls at hl ⊢
  have hl : lv_has ls 1 [(0, .ref (ad a0))] := hl
  have iX3 := (show ∀ w ∈ u_ws RX3 TX3 9, w ∈ wsX3_isAsking by decide +kernel)
  have f29 := hts (.fieldLink RX3 29 "AdventureParser$State" "questionSlot" "I") (by decide +kernel)
  clear hB0
  unfold sX3_isAsking at hs
  refine lv_aload_n hx hb dX3_isAsking_0 rfl (lv_at hl 0 rfl) ?_
  refine va_get (D := D) (ci := 3) (v := .int (v a0 8)) (C := RX3) (T := TX3) (N := 9) hx hb hts iX3 hown hK.1 hP a0 (gW_3 hk0) rfl 8 (by decide) f29 (fun _ h9 => h9) rfl dX3_isAsking_1 ?_
  refine lv_iconst (v := (-1)) hx hb dX3_isAsking_4 (by decide) ?_
  refine lv_icmp_eq (tgt := 12) hx hb dX3_isAsking_5 (by decide) (fun hc => ?_) (fun hc => ?_)
  · have hs := g_t hs hc
    refine lv_iconst (v := 0) hx hb dX3_isAsking_12 (by decide) ?_
    exact gRet_z hx hb hr hlocks rfl hK hP hS ⟨g_some hs, rfl⟩ dX3_isAsking_13
  · have hs := g_f hs hc
    refine lv_iconst (v := 1) hx hb dX3_isAsking_8 (by decide) ?_
    refine lv_goto (tgt := 13) hx hb dX3_isAsking_9 (by decide) ?_
    exact gRet_z hx hb hr hlocks rfl hK hP hS ⟨g_some hs, rfl⟩ dX3_isAsking_13
set_option maxHeartbeats 4000000 in
set_option maxRecDepth 100000 in
theorem cX3_closeQuestion_c (l : Launch) (D : va_G) (cy : Nat → ClassId) (ad : Nat → Nat) (tL z0 : Nat) (hI : gI z0 ad) (v : gV) (u : Int64) (a0 : Nat) (v1 : gV) (hk0 : kd a0 = 3) (hs : sX3_closeQuestion v a0 = some v1) : Met l yX3_closeQuestion wsX3_closeQuestion ({ frames := 0, cells := 0, slots := 0, locals := 0 } : Room) (gPc D cy ad tL z0 v u [.ref (ad a0)]) (gQv D cy ad tL z0 v1 u) 0 0 (gA z0) := by
  refine Met.ofW (cc := cX3_closeQuestion) (maxL := 1) (ret := none) (by decide) rfl ?_
  intro p e s m args below meth c s₁ B hml hv
  obtain ⟨rfl, hB0⟩ := hv
  have hP : va_P D vwCl (gW cy ad v u) s.heap := hB0.1
  have hK : gK D cy tL z0 s s.heap := hB0.2
  have hx := B.exec
  have hb := B.bytes
  have hr := B.returns
  have hts := atoms_spec (ws := wsX3_closeQuestion) B.pre
  have hown : s.vm.findClass RX3 = some m.cls := findClass_of_methodNamed B.named
  have hlocks := B.notSynchronized
  have hS : va_S (gA z0) s.heap s.heap [] := va_S.rf
  have hl := lv_entry ([.ref (ad a0)]) (n := 1) (Nat.le_of_ble_eq_true rfl)
  rw [lg_entry_eq]
  generalize (lg_sl ([.ref (ad a0)]) ++ List.replicate (1 - (lg_sl ([.ref (ad a0)])).length) Slot.unset).toArray = ls at hl ⊢
  have hl : lv_has ls 1 [(0, .ref (ad a0))] := hl
  have iX3 := (show ∀ w ∈ u_ws RX3 TX3 9, w ∈ wsX3_closeQuestion by decide +kernel)
  have f29 := hts (.fieldLink RX3 29 "AdventureParser$State" "questionSlot" "I") (by decide +kernel)
  have f51 := hts (.fieldLink RX3 51 "AdventureParser$State" "candidates" "I") (by decide +kernel)
  clear hB0
  unfold sX3_closeQuestion at hs
  refine lv_aload_n hx hb dX3_closeQuestion_0 rfl (lv_at hl 0 rfl) ?_
  refine lv_iconst (v := (-1)) hx hb dX3_closeQuestion_1 (by decide) ?_
  refine va_put (D := D) (ci := 3) (v := .int ((-1))) (ty := .int) (C := RX3) (T := TX3) (N := 9) hx hb hts iX3 tyX3 tyX3_ok nmX3 hown hK.1 hP (gD hI) hS a0 (gW_3 hk0) rfl 8 (by decide) f29 (fun _ h9 => h9) rfl (by decide +kernel) rfl rfl (Nat.le_of_ble_eq_true rfl) dX3_closeQuestion_2 (fun H locs hP _ hS => ?_)
  refine g_let hs (fun v_1 ev_1 hs => ?_)
  have hP : va_P D vwCl (gW cy ad v_1 u) H := gPset ((gS_3_8 hk0 ((-1))).trans (congrArg (fun z => gW cy ad z u) ev_1.symm)) hP
  refine lv_aload_n hx hb dX3_closeQuestion_5 rfl (lv_at hl 0 rfl) ?_
  refine lv_iconst (v := 0) hx hb dX3_closeQuestion_6 (by decide) ?_
  refine va_put (D := D) (ci := 3) (v := .int 0) (ty := .int) (C := RX3) (T := TX3) (N := 9) hx hb hts iX3 tyX3 tyX3_ok nmX3 hown hK.1 hP (gD hI) hS a0 (gW_3 hk0) rfl 7 (by decide) f51 (fun _ h9 => h9) rfl (by decide +kernel) rfl rfl (Nat.le_of_ble_eq_true rfl) dX3_closeQuestion_7 (fun H locs hP _ hS => ?_)
  refine g_let hs (fun v_2 ev_2 hs => ?_)
  have hP : va_P D vwCl (gW cy ad v_2 u) H := gPset ((gS_3_7 hk0 0).trans (congrArg (fun z => gW cy ad z u) ev_2.symm)) hP
  exact gRet_v hx hb hr hlocks hK hP hS (g_some hs) dX3_closeQuestion_10
set_option maxHeartbeats 4000000 in
set_option maxRecDepth 100000 in
theorem cX4_fittingSet_c (l : Launch) (D : va_G) (cy : Nat → ClassId) (ad : Nat → Nat) (tL z0 : Nat) (hI : gI z0 ad) (n : Nat) (v : gV) (u : Int64) (a0 : Nat) (x1 : Int32) (x2 : Int32) (r0 : Int32) (hk0 : kd a0 = 4) (hs : sX4_fittingSet n v a0 x1 x2 = some r0) : Met l yX4_fittingSet wsX4_fittingSet ({ frames := 0, cells := 0, slots := 0, locals := 0 } : Room) (gPc D cy ad tL z0 v u [.ref (ad a0), .int x1, .int x2]) (gQi D cy ad tL z0 v u r0) 0 0 (gA z0) := by
  refine Met.ofW (cc := cX4_fittingSet) (maxL := 5) (ret := (some .int)) (by decide) rfl ?_
  intro p e s m args below meth c s₁ B hml hv
  obtain ⟨rfl, hB0⟩ := hv
  have hP : va_P D vwCl (gW cy ad v u) s.heap := hB0.1
  have hK : gK D cy tL z0 s s.heap := hB0.2
  have hx := B.exec
  have hb := B.bytes
  have hr := B.returns
  have hts := atoms_spec (ws := wsX4_fittingSet) B.pre
  have hown : s.vm.findClass RX4 = some m.cls := findClass_of_methodNamed B.named
  have hlocks := B.notSynchronized
  have hS : va_S (gA z0) s.heap s.heap [] := va_S.rf
  have hl := lv_entry ([.ref (ad a0), .int x1, .int x2]) (n := 5) (Nat.le_of_ble_eq_true rfl)
  rw [lg_entry_eq]
  generalize (lg_sl ([.ref (ad a0), .int x1, .int x2]) ++ List.replicate (5 - (lg_sl ([.ref (ad a0), .int x1, .int x2])).length) Slot.unset).toArray = ls at hl ⊢
  have hl : lv_has ls 5 [(0, .ref (ad a0)), (1, .int x1), (2, .int x2)] := hl
  have iX4 := (show ∀ w ∈ u_ws RX4 TX4 6, w ∈ wsX4_fittingSet by decide +kernel)
  have f21 := hts (.fieldLink RX4 21 "AdventureParser$World" "count" "I") (by decide +kernel)
  have f15 := hts (.fieldLink RX4 15 "AdventureParser$World" "adjectives" "[I") (by decide +kernel)
  have f9 := hts (.fieldLink RX4 9 "AdventureParser$World" "nouns" "[I") (by decide +kernel)
  clear hB0
  have hL_5 : ∀ (k : Nat), ∀ (w1 : Int32) (w2 : Int32) (w3 : Int32) (w4 : Int32) (H : Heap) (locs : List Loc) (ls : Array Slot), va_P D vwCl (gW cy ad v u) H → va_S (gA z0) s.heap H locs → lv_has ls 5 [(0, .ref (ad a0)), (1, .int w1), (2, .int w2), (3, .int w3), (4, .int w4)] → sX4_fittingSet_5 n a0 k v w1 w2 w3 w4 = some r0 → W p l e (headSpec wsX4_fittingSet ({ frames := 0, cells := 0, slots := 0, locals := 0 } : Room)).room s m ([.ref (ad a0), .int x1, .int x2] : List Value).toArray below meth c H locs 0 0 (MQ below (gQi D cy ad tL z0 v u r0) ([.ref (ad a0), .int x1, .int x2] : List Value).toArray s 0 0 (gA z0)) (F0 m 5 ls []) := by
    intro k
    induction k with
    | zero =>
      intro w1 w2 w3 w4 H locs ls hP hS hl hs
      exact g_none hs
    | succ k ih =>
      have hJ_37 : ∀ (w1 : Int32) (w2 : Int32) (w3 : Int32) (w4 : Int32) (H : Heap) (locs : List Loc) (ls : Array Slot), va_P D vwCl (gW cy ad v u) H → va_S (gA z0) s.heap H locs → lv_has ls 5 [(0, .ref (ad a0)), (1, .int w1), (2, .int w2), (3, .int w3), (4, .int w4)] → sX4_fittingSet_37 n a0 (sX4_fittingSet_5 n a0 k) v w1 w2 w3 w4 = some r0 → W p l e (headSpec wsX4_fittingSet ({ frames := 0, cells := 0, slots := 0, locals := 0 } : Room)).room s m ([.ref (ad a0), .int x1, .int x2] : List Value).toArray below meth c H locs 0 0 (MQ below (gQi D cy ad tL z0 v u r0) ([.ref (ad a0), .int x1, .int x2] : List Value).toArray s 0 0 (gA z0)) (F0 m 37 ls []) := by
        intro w1 w2 w3 w4 H locs ls hP hS hl hs
        unfold sX4_fittingSet_37 at hs
        refine lv_iload_n hx hb dX4_fittingSet_37 rfl (lv_at hl 2 rfl) ?_
        refine lv_iconst (v := (-1)) hx hb dX4_fittingSet_38 (by decide) ?_
        refine lv_icmp_eq (tgt := 53) hx hb dX4_fittingSet_39 (by decide) (fun hc => ?_) (fun hc => ?_)
        · have hs := g_t hs hc
          refine lv_iload_n hx hb dX4_fittingSet_53 rfl (lv_at hl 3 rfl) ?_
          refine lv_iconst (v := 1) hx hb dX4_fittingSet_54 (by decide) ?_
          refine lv_iload hx hb dX4_fittingSet_55 (lv_at hl 4 rfl) ?_
          refine lv_ishl hx hb dX4_fittingSet_57 ?_
          refine lv_ior hx hb dX4_fittingSet_58 ?_
          refine lv_istore_n (lv' := [(3, .int (w3 ||| ((1 : Int32) <<< (w4 &&& 31)))), (0, .ref (ad a0)), (1, .int w1), (2, .int w2), (4, .int w4)]) hx hb dX4_fittingSet_59 rfl hl (by decide) rfl (fun ls hl => ?_)
          refine lv_iinc (v := w4 + 1) (lv' := [(4, .int (w4 + 1)), (3, .int (w3 ||| ((1 : Int32) <<< (w4 &&& 31)))), (0, .ref (ad a0)), (1, .int w1), (2, .int w2)]) hx hb dX4_fittingSet_60 hl (k := 4) rfl rfl (by decide) rfl (fun ls hl => ?_)
          refine lv_goto (tgt := 5) hx hb dX4_fittingSet_63 (by decide) ?_
          exact ih w1 w2 (w3 ||| ((1 : Int32) <<< (w4 &&& 31))) (w4 + 1) _ _ _ hP hS (lv_sub hl [2, 3, 4, 1, 0] rfl) hs
        · have hs := g_f hs hc
          refine lv_aload_n hx hb dX4_fittingSet_42 rfl (lv_at hl 0 rfl) ?_
          refine va_get (D := D) (ci := 4) (v := .ref (ad (a0 + 2))) (C := RX4) (T := TX4) (N := 6) hx hb hts iX4 hown hK.1 hP a0 (gW_4 hk0) rfl 1 (by decide) f15 (fun _ h9 => h9) rfl dX4_fittingSet_43 ?_
          refine lv_iload hx hb dX4_fittingSet_46 (lv_at hl 4 rfl) ?_
          refine g_chk hs (fun hc hs => ?_)
          refine va_iald hx hb hK.1 hP (a0 + 2) 0 (gW_12 (kd_4_2 hk0)) rfl hc dX4_fittingSet_48 ?_
          refine lv_iload_n hx hb dX4_fittingSet_49 rfl (lv_at hl 2 rfl) ?_
          refine lv_icmp_ne (tgt := 60) hx hb dX4_fittingSet_50 (by decide) (fun hc => ?_) (fun hc => ?_)
          · have hs := g_f hs hc
            refine lv_iinc (v := w4 + 1) (lv' := [(4, .int (w4 + 1)), (0, .ref (ad a0)), (1, .int w1), (2, .int w2), (3, .int w3)]) hx hb dX4_fittingSet_60 hl (k := 4) rfl rfl (by decide) rfl (fun ls hl => ?_)
            refine lv_goto (tgt := 5) hx hb dX4_fittingSet_63 (by decide) ?_
            exact ih w1 w2 w3 (w4 + 1) _ _ _ hP hS (lv_sub hl [1, 2, 3, 4, 0] rfl) hs
          · have hs := g_t hs hc
            refine lv_iload_n hx hb dX4_fittingSet_53 rfl (lv_at hl 3 rfl) ?_
            refine lv_iconst (v := 1) hx hb dX4_fittingSet_54 (by decide) ?_
            refine lv_iload hx hb dX4_fittingSet_55 (lv_at hl 4 rfl) ?_
            refine lv_ishl hx hb dX4_fittingSet_57 ?_
            refine lv_ior hx hb dX4_fittingSet_58 ?_
            refine lv_istore_n (lv' := [(3, .int (w3 ||| ((1 : Int32) <<< (w4 &&& 31)))), (0, .ref (ad a0)), (1, .int w1), (2, .int w2), (4, .int w4)]) hx hb dX4_fittingSet_59 rfl hl (by decide) rfl (fun ls hl => ?_)
            refine lv_iinc (v := w4 + 1) (lv' := [(4, .int (w4 + 1)), (3, .int (w3 ||| ((1 : Int32) <<< (w4 &&& 31)))), (0, .ref (ad a0)), (1, .int w1), (2, .int w2)]) hx hb dX4_fittingSet_60 hl (k := 4) rfl rfl (by decide) rfl (fun ls hl => ?_)
            refine lv_goto (tgt := 5) hx hb dX4_fittingSet_63 (by decide) ?_
            exact ih w1 w2 (w3 ||| ((1 : Int32) <<< (w4 &&& 31))) (w4 + 1) _ _ _ hP hS (lv_sub hl [2, 3, 4, 1, 0] rfl) hs
      intro w1 w2 w3 w4 H locs ls hP hS hl hs
      rw [sX4_fittingSet_5] at hs
      refine lv_iload hx hb dX4_fittingSet_5 (lv_at hl 4 rfl) ?_
      refine lv_aload_n hx hb dX4_fittingSet_7 rfl (lv_at hl 0 rfl) ?_
      refine va_get (D := D) (ci := 4) (v := .int (v a0 3)) (C := RX4) (T := TX4) (N := 6) hx hb hts iX4 hown hK.1 hP a0 (gW_4 hk0) rfl 3 (by decide) f21 (fun _ h9 => h9) rfl dX4_fittingSet_8 ?_
      refine lv_icmp_ge (tgt := 66) hx hb dX4_fittingSet_11 (by decide) (fun hc => ?_) (fun hc => ?_)
      · have hs := g_t hs hc
        refine lv_iload_n hx hb dX4_fittingSet_66 rfl (lv_at hl 3 rfl) ?_
        exact gRet_i hx hb hr hlocks hK hP hS ⟨g_some hs, rfl⟩ dX4_fittingSet_67
      · have hs := g_f hs hc
        refine lv_iload hx hb dX4_fittingSet_14 (lv_at hl 4 rfl) ?_
        refine lv_bipush (v := 12) hx hb dX4_fittingSet_16 (by decide) ?_
        refine lv_icmp_ge (tgt := 66) hx hb dX4_fittingSet_18 (by decide) (fun hc => ?_) (fun hc => ?_)
        · have hs := g_t hs hc
          refine lv_iload_n hx hb dX4_fittingSet_66 rfl (lv_at hl 3 rfl) ?_
          exact gRet_i hx hb hr hlocks hK hP hS ⟨g_some hs, rfl⟩ dX4_fittingSet_67
        · have hs := g_f hs hc
          refine lv_iload_n hx hb dX4_fittingSet_21 rfl (lv_at hl 1 rfl) ?_
          refine lv_iconst (v := (-1)) hx hb dX4_fittingSet_22 (by decide) ?_
          refine lv_icmp_eq (tgt := 37) hx hb dX4_fittingSet_23 (by decide) (fun hc => ?_) (fun hc => ?_)
          · have hs := g_t hs hc
            exact hJ_37 w1 w2 w3 w4 _ _ _ hP hS (lv_sub hl [0, 1, 2, 3, 4] rfl) hs
          · have hs := g_f hs hc
            refine lv_aload_n hx hb dX4_fittingSet_26 rfl (lv_at hl 0 rfl) ?_
            refine va_get (D := D) (ci := 4) (v := .ref (ad (a0 + 1))) (C := RX4) (T := TX4) (N := 6) hx hb hts iX4 hown hK.1 hP a0 (gW_4 hk0) rfl 0 (by decide) f9 (fun _ h9 => h9) rfl dX4_fittingSet_27 ?_
            refine lv_iload hx hb dX4_fittingSet_30 (lv_at hl 4 rfl) ?_
            refine g_chk hs (fun hc hs => ?_)
            refine va_iald hx hb hK.1 hP (a0 + 1) 0 (gW_12 (kd_4_1 hk0)) rfl hc dX4_fittingSet_32 ?_
            refine lv_iload_n hx hb dX4_fittingSet_33 rfl (lv_at hl 1 rfl) ?_
            refine lv_icmp_ne (tgt := 60) hx hb dX4_fittingSet_34 (by decide) (fun hc => ?_) (fun hc => ?_)
            · have hs := g_f hs hc
              refine lv_iinc (v := w4 + 1) (lv' := [(4, .int (w4 + 1)), (0, .ref (ad a0)), (1, .int w1), (2, .int w2), (3, .int w3)]) hx hb dX4_fittingSet_60 hl (k := 4) rfl rfl (by decide) rfl (fun ls hl => ?_)
              refine lv_goto (tgt := 5) hx hb dX4_fittingSet_63 (by decide) ?_
              exact ih w1 w2 w3 (w4 + 1) _ _ _ hP hS (lv_sub hl [1, 2, 3, 4, 0] rfl) hs
            · have hs := g_t hs hc
              exact hJ_37 w1 w2 w3 w4 _ _ _ hP hS (lv_sub hl [0, 1, 2, 3, 4] rfl) hs
  unfold sX4_fittingSet at hs
  refine lv_iconst (v := 0) hx hb dX4_fittingSet_0 (by decide) ?_
  refine lv_istore_n (lv' := [(3, .int 0), (0, .ref (ad a0)), (1, .int x1), (2, .int x2)]) hx hb dX4_fittingSet_1 rfl hl (by decide) rfl (fun ls hl => ?_)
  refine lv_iconst (v := 0) hx hb dX4_fittingSet_2 (by decide) ?_
  refine lv_istore (lv' := [(4, .int 0), (3, .int 0), (0, .ref (ad a0)), (1, .int x1), (2, .int x2)]) hx hb dX4_fittingSet_3 hl (by decide) rfl (fun ls hl => ?_)
  exact hL_5 n x1 x2 0 0 _ _ _ hP hS (lv_sub hl [2, 3, 4, 1, 0] rfl) hs
set_option maxHeartbeats 4000000 in
set_option maxRecDepth 100000 in
theorem cJ6_bitCount_0f7a4_c (l : Launch) (D : va_G) (cy : Nat → ClassId) (ad : Nat → Nat) (tL z0 : Nat) (hI : gI z0 ad) (v : gV) (u : Int64) (x0 : Int32) (r0 : Int32) (hs : sJ6_bitCount_0f7a4 x0 = some r0) : Met l yJ6_bitCount_0f7a4 wsJ6_bitCount_0f7a4 ({ frames := 0, cells := 0, slots := 0, locals := 0 } : Room) (gPc D cy ad tL z0 v u [.int x0]) (gQi D cy ad tL z0 v u r0) 0 0 (gA z0) := by
  refine Met.ofW (cc := cJ6_bitCount_0f7a4) (maxL := 1) (ret := (some .int)) (by decide) rfl ?_
  intro p e s m args below meth c s₁ B hml hv
  obtain ⟨rfl, hB0⟩ := hv
  have hP : va_P D vwCl (gW cy ad v u) s.heap := hB0.1
  have hK : gK D cy tL z0 s s.heap := hB0.2
  have hx := B.exec
  have hb := B.bytes
  have hr := B.returns
  have hts := atoms_spec (ws := wsJ6_bitCount_0f7a4) B.pre
  have hown : s.vm.findClass RJ6 = some m.cls := findClass_of_methodNamed B.named
  have hlocks := B.notSynchronized
  have hS : va_S (gA z0) s.heap s.heap [] := va_S.rf
  have hl := lv_entry ([.int x0]) (n := 1) (Nat.le_of_ble_eq_true rfl)
  rw [lg_entry_eq]
  generalize (lg_sl ([.int x0]) ++ List.replicate (1 - (lg_sl ([.int x0])).length) Slot.unset).toArray = ls at hl ⊢
  have hl : lv_has ls 1 [(0, .int x0)] := hl
  have k265 := hts (.constant RJ6 265 (1431655765)) (by decide +kernel)
  have k266 := hts (.constant RJ6 266 (858993459)) (by decide +kernel)
  have k267 := hts (.constant RJ6 267 (252645135)) (by decide +kernel)
  clear hB0
  unfold sJ6_bitCount_0f7a4 at hs
  refine lv_iload_n hx hb dJ6_bitCount_0f7a4_0 rfl (lv_at hl 0 rfl) ?_
  refine lv_iload_n hx hb dJ6_bitCount_0f7a4_1 rfl (lv_at hl 0 rfl) ?_
  refine lv_iconst (v := 1) hx hb dJ6_bitCount_0f7a4_2 (by decide) ?_
  refine lv_iushr hx hb dJ6_bitCount_0f7a4_3 rfl ?_
  refine lv_ldcw hx hb hown k265 dJ6_bitCount_0f7a4_4 ?_
  refine lv_iand hx hb dJ6_bitCount_0f7a4_7 ?_
  refine lv_topi (fun y_1 ey_1 => ?_)
  have hs := g_letE hs ey_1
  refine lv_isub hx hb dJ6_bitCount_0f7a4_8 ?_
  refine lv_istore_n (lv' := [(0, .int (x0 - y_1))]) hx hb dJ6_bitCount_0f7a4_9 rfl hl (by decide) rfl (fun ls hl => ?_)
  refine lv_iload_n hx hb dJ6_bitCount_0f7a4_10 rfl (lv_at hl 0 rfl) ?_
  refine lv_ldcw hx hb hown k266 dJ6_bitCount_0f7a4_11 ?_
  refine lv_iand hx hb dJ6_bitCount_0f7a4_14 ?_
  refine lv_iload_n hx hb dJ6_bitCount_0f7a4_15 rfl (lv_at hl 0 rfl) ?_
  refine lv_iconst (v := 2) hx hb dJ6_bitCount_0f7a4_16 (by decide) ?_
  refine lv_iushr hx hb dJ6_bitCount_0f7a4_17 rfl ?_
  refine lv_topi (fun y_2 ey_2 => ?_)
  have hs := g_letE hs ey_2
  refine lv_ldcw hx hb hown k266 dJ6_bitCount_0f7a4_18 ?_
  refine lv_iand hx hb dJ6_bitCount_0f7a4_21 ?_
  refine lv_iadd hx hb dJ6_bitCount_0f7a4_22 ?_
  refine lv_istore_n (lv' := [(0, .int (((x0 - y_1) &&& 858993459) + (y_2 &&& 858993459)))]) hx hb dJ6_bitCount_0f7a4_23 rfl hl (by decide) rfl (fun ls hl => ?_)
  refine lv_iload_n hx hb dJ6_bitCount_0f7a4_24 rfl (lv_at hl 0 rfl) ?_
  refine lv_iload_n hx hb dJ6_bitCount_0f7a4_25 rfl (lv_at hl 0 rfl) ?_
  refine lv_iconst (v := 4) hx hb dJ6_bitCount_0f7a4_26 (by decide) ?_
  refine lv_iushr hx hb dJ6_bitCount_0f7a4_27 rfl ?_
  refine lv_topi (fun y_3 ey_3 => ?_)
  have hs := g_letE hs ey_3
  refine lv_iadd hx hb dJ6_bitCount_0f7a4_28 ?_
  refine lv_ldcw hx hb hown k267 dJ6_bitCount_0f7a4_29 ?_
  refine lv_iand hx hb dJ6_bitCount_0f7a4_32 ?_
  refine lv_topi (fun y_4 ey_4 => ?_)
  have hs := g_letE hs ey_4
  refine lv_istore_n (lv' := [(0, .int y_4)]) hx hb dJ6_bitCount_0f7a4_33 rfl hl (by decide) rfl (fun ls hl => ?_)
  refine lv_iload_n hx hb dJ6_bitCount_0f7a4_34 rfl (lv_at hl 0 rfl) ?_
  refine lv_iload_n hx hb dJ6_bitCount_0f7a4_35 rfl (lv_at hl 0 rfl) ?_
  refine lv_bipush (v := 8) hx hb dJ6_bitCount_0f7a4_36 (by decide) ?_
  refine lv_iushr hx hb dJ6_bitCount_0f7a4_38 rfl ?_
  refine lv_topi (fun y_5 ey_5 => ?_)
  have hs := g_letE hs ey_5
  refine lv_iadd hx hb dJ6_bitCount_0f7a4_39 ?_
  refine lv_istore_n (lv' := [(0, .int (y_4 + y_5))]) hx hb dJ6_bitCount_0f7a4_40 rfl hl (by decide) rfl (fun ls hl => ?_)
  refine lv_iload_n hx hb dJ6_bitCount_0f7a4_41 rfl (lv_at hl 0 rfl) ?_
  refine lv_iload_n hx hb dJ6_bitCount_0f7a4_42 rfl (lv_at hl 0 rfl) ?_
  refine lv_bipush (v := 16) hx hb dJ6_bitCount_0f7a4_43 (by decide) ?_
  refine lv_iushr hx hb dJ6_bitCount_0f7a4_45 rfl ?_
  refine lv_topi (fun y_6 ey_6 => ?_)
  have hs := g_letE hs ey_6
  refine lv_iadd hx hb dJ6_bitCount_0f7a4_46 ?_
  refine lv_istore_n (lv' := [(0, .int ((y_4 + y_5) + y_6))]) hx hb dJ6_bitCount_0f7a4_47 rfl hl (by decide) rfl (fun ls hl => ?_)
  refine lv_iload_n hx hb dJ6_bitCount_0f7a4_48 rfl (lv_at hl 0 rfl) ?_
  refine lv_bipush (v := 63) hx hb dJ6_bitCount_0f7a4_49 (by decide) ?_
  refine lv_iand hx hb dJ6_bitCount_0f7a4_51 ?_
  exact gRet_i hx hb hr hlocks hK hP hS ⟨g_some hs, rfl⟩ dJ6_bitCount_0f7a4_52
set_option maxHeartbeats 4000000 in
set_option maxRecDepth 100000 in
theorem cX5_isRoom_c (l : Launch) (D : va_G) (cy : Nat → ClassId) (ad : Nat → Nat) (tL z0 : Nat) (hI : gI z0 ad) (v : gV) (u : Int64) (x0 : Int32) (r0 : Int32) (hs : sX5_isRoom x0 = some r0) : Met l yX5_isRoom wsX5_isRoom ({ frames := 0, cells := 0, slots := 0, locals := 0 } : Room) (gPc D cy ad tL z0 v u [.int x0]) (gQi D cy ad tL z0 v u r0) 0 0 (gA z0) := by
  refine Met.ofW (cc := cX5_isRoom) (maxL := 1) (ret := (some .boolean)) (by decide) rfl ?_
  intro p e s m args below meth c s₁ B hml hv
  obtain ⟨rfl, hB0⟩ := hv
  have hP : va_P D vwCl (gW cy ad v u) s.heap := hB0.1
  have hK : gK D cy tL z0 s s.heap := hB0.2
  have hx := B.exec
  have hb := B.bytes
  have hr := B.returns
  have hts := atoms_spec (ws := wsX5_isRoom) B.pre
  have hown : s.vm.findClass RX5 = some m.cls := findClass_of_methodNamed B.named
  have hlocks := B.notSynchronized
  have hS : va_S (gA z0) s.heap s.heap [] := va_S.rf
  have hl := lv_entry ([.int x0]) (n := 1) (Nat.le_of_ble_eq_true rfl)
  rw [lg_entry_eq]
  generalize (lg_sl ([.int x0]) ++ List.replicate (1 - (lg_sl ([.int x0])).length) Slot.unset).toArray = ls at hl ⊢
  have hl : lv_has ls 1 [(0, .int x0)] := hl
  clear hB0
  unfold sX5_isRoom at hs
  refine lv_iload_n hx hb dX5_isRoom_0 rfl (lv_at hl 0 rfl) ?_
  refine lv_if_lt (tgt := 13) hx hb dX5_isRoom_1 (by decide) (fun hc => ?_) (fun hc => ?_)
  · have hs := g_t hs hc
    refine lv_iconst (v := 0) hx hb dX5_isRoom_13 (by decide) ?_
    exact gRet_z hx hb hr hlocks rfl hK hP hS ⟨g_some hs, rfl⟩ dX5_isRoom_14
  · have hs := g_f hs hc
    refine lv_iload_n hx hb dX5_isRoom_4 rfl (lv_at hl 0 rfl) ?_
    refine lv_iconst (v := 4) hx hb dX5_isRoom_5 (by decide) ?_
    refine lv_icmp_ge (tgt := 13) hx hb dX5_isRoom_6 (by decide) (fun hc => ?_) (fun hc => ?_)
    · have hs := g_t hs hc
      refine lv_iconst (v := 0) hx hb dX5_isRoom_13 (by decide) ?_
      exact gRet_z hx hb hr hlocks rfl hK hP hS ⟨g_some hs, rfl⟩ dX5_isRoom_14
    · have hs := g_f hs hc
      refine lv_iconst (v := 1) hx hb dX5_isRoom_9 (by decide) ?_
      refine lv_goto (tgt := 14) hx hb dX5_isRoom_10 (by decide) ?_
      exact gRet_z hx hb hr hlocks rfl hK hP hS ⟨g_some hs, rfl⟩ dX5_isRoom_14
set_option maxHeartbeats 4000000 in
set_option maxRecDepth 100000 in
theorem cX4_walk_c (l : Launch) (D : va_G) (cy : Nat → ClassId) (ad : Nat → Nat) (tL z0 : Nat) (hI : gI z0 ad) (v : gV) (u : Int64) (a0 : Nat) (x1 : Int32) (r0 : Int32) (v1 : gV) (hk0 : kd a0 = 4) (hs : sX4_walk v a0 x1 = some (r0, v1)) : Met l yX4_walk wsX4_walk ({ frames := 1, cells := 0, slots := 0, locals := 20 } : Room) (gPc D cy ad tL z0 v u [.ref (ad a0), .int x1]) (gQi D cy ad tL z0 v1 u r0) 0 0 (gA z0) := by
  refine Met.ofW (cc := cX4_walk) (maxL := 2) (ret := (some .int)) (by decide) rfl ?_
  intro p e s m args below meth c s₁ B hml hv
  obtain ⟨rfl, hB0⟩ := hv
  have hP : va_P D vwCl (gW cy ad v u) s.heap := hB0.1
  have hK : gK D cy tL z0 s s.heap := hB0.2
  have hx := B.exec
  have hb := B.bytes
  have hr := B.returns
  have hts := atoms_spec (ws := wsX4_walk) B.pre
  have hown : s.vm.findClass RX4 = some m.cls := findClass_of_methodNamed B.named
  have hlocks := B.notSynchronized
  have hS : va_S (gA z0) s.heap s.heap [] := va_S.rf
  have hl := lv_entry ([.ref (ad a0), .int x1]) (n := 2) (Nat.le_of_ble_eq_true rfl)
  rw [lg_entry_eq]
  generalize (lg_sl ([.ref (ad a0), .int x1]) ++ List.replicate (2 - (lg_sl ([.ref (ad a0), .int x1])).length) Slot.unset).toArray = ls at hl ⊢
  have hl : lv_has ls 2 [(0, .ref (ad a0)), (1, .int x1)] := hl
  have iX4 := (show ∀ w ∈ u_ws RX4 TX4 6, w ∈ wsX4_walk by decide +kernel)
  have f25 := hts (.fieldLink RX4 25 "AdventureParser$World" "room" "I") (by decide +kernel)
  have stX5_isRoom := hts (.static yX5_isRoom) (by decide +kernel)
  have inX5 := hts (.initialized RX5) (by decide +kernel)
  clear hB0
  unfold sX4_walk at hs
  refine lv_aload_n hx hb dX4_walk_0 rfl (lv_at hl 0 rfl) ?_
  refine va_get (D := D) (ci := 4) (v := .int (v a0 4)) (C := RX4) (T := TX4) (N := 6) hx hb hts iX4 hown hK.1 hP a0 (gW_4 hk0) rfl 4 (by decide) f25 (fun _ h9 => h9) rfl dX4_walk_1 ?_
  refine lv_iload_n hx hb dX4_walk_4 rfl (lv_at hl 1 rfl) ?_
  refine lv_iadd hx hb dX4_walk_5 ?_
  refine g_bind hs (fun q_1 hq_1 hs => ?_)
  refine gCN_i (As := [.int ((v a0 4) + x1)]) (rest := []) ⟨hx, hb, hml, hown, hts⟩ (cX5_isRoom_c l D cy ad tL z0 hI v u ((v a0 4) + x1) q_1 hq_1) (va_cnB (host := RX5) 1 hts gX4_walk_X5_isRoom_n31 rfl rfl rfl (hK.2.2.2.1 _ (List.mem_of_getElem? (i := 1) rfl)) inX5 (by decide +kernel) ⟨Nat.le_of_ble_eq_true rfl, Nat.le_of_ble_eq_true rfl⟩) stX5_isRoom hK hP hS hl.1 rfl rfl (Nat.le_of_ble_eq_true rfl) dX4_walk_6 ⟨Nat.zero_le _, Nat.zero_le _⟩ (fun H locs hP hS => ?_)
  refine lv_if_ne (tgt := 14) hx hb dX4_walk_9 (by decide) (fun hc => ?_) (fun hc => ?_)
  · have hs := g_f hs hc
    refine lv_aload_n hx hb dX4_walk_14 rfl (lv_at hl 0 rfl) ?_
    refine lv_dup hx hb dX4_walk_15 rfl ?_
    refine va_get (D := D) (ci := 4) (v := .int (v a0 4)) (C := RX4) (T := TX4) (N := 6) hx hb hts iX4 hown hK.1 hP a0 (gW_4 hk0) rfl 4 (by decide) f25 (fun _ h9 => h9) rfl dX4_walk_16 ?_
    refine lv_iload_n hx hb dX4_walk_19 rfl (lv_at hl 1 rfl) ?_
    refine lv_iadd hx hb dX4_walk_20 ?_
    refine va_put (D := D) (ci := 4) (v := .int ((v a0 4) + x1)) (ty := .int) (C := RX4) (T := TX4) (N := 6) hx hb hts iX4 tyX4 tyX4_ok nmX4 hown hK.1 hP (gD hI) hS a0 (gW_4 hk0) rfl 4 (by decide) f25 (fun _ h9 => h9) rfl (by decide +kernel) rfl rfl (Nat.le_of_ble_eq_true rfl) dX4_walk_21 (fun H locs hP _ hS => ?_)
    refine g_let hs (fun v_2 ev_2 hs => ?_)
    have hP : va_P D vwCl (gW cy ad v_2 u) H := gPset ((gS_4_4 hk0 ((v a0 4) + x1)).trans (congrArg (fun z => gW cy ad z u) ev_2.symm)) hP
    refine lv_iconst (v := 1) hx hb dX4_walk_24 (by decide) ?_
    exact gRet_i hx hb hr hlocks hK hP hS (g_some2 hs) dX4_walk_25
  · have hs := g_t hs hc
    refine lv_iconst (v := 0) hx hb dX4_walk_12 (by decide) ?_
    exact gRet_i hx hb hr hlocks hK hP hS (g_some2 hs) dX4_walk_13
set_option maxHeartbeats 4000000 in
set_option maxRecDepth 100000 in
theorem cX4_setAt_c (l : Launch) (D : va_G) (cy : Nat → ClassId) (ad : Nat → Nat) (tL z0 : Nat) (hI : gI z0 ad) (n : Nat) (v : gV) (u : Int64) (a0 : Nat) (x1 : Int32) (r0 : Int32) (hk0 : kd a0 = 4) (hs : sX4_setAt n v a0 x1 = some r0) : Met l yX4_setAt wsX4_setAt ({ frames := 0, cells := 0, slots := 0, locals := 0 } : Room) (gPc D cy ad tL z0 v u [.ref (ad a0), .int x1]) (gQi D cy ad tL z0 v u r0) 0 0 (gA z0) := by
  refine Met.ofW (cc := cX4_setAt) (maxL := 4) (ret := (some .int)) (by decide) rfl ?_
  intro p e s m args below meth c s₁ B hml hv
  obtain ⟨rfl, hB0⟩ := hv
  have hP : va_P D vwCl (gW cy ad v u) s.heap := hB0.1
  have hK : gK D cy tL z0 s s.heap := hB0.2
  have hx := B.exec
  have hb := B.bytes
  have hr := B.returns
  have hts := atoms_spec (ws := wsX4_setAt) B.pre
  have hown : s.vm.findClass RX4 = some m.cls := findClass_of_methodNamed B.named
  have hlocks := B.notSynchronized
  have hS : va_S (gA z0) s.heap s.heap [] := va_S.rf
  have hl := lv_entry ([.ref (ad a0), .int x1]) (n := 4) (Nat.le_of_ble_eq_true rfl)
  rw [lg_entry_eq]
  generalize (lg_sl ([.ref (ad a0), .int x1]) ++ List.replicate (4 - (lg_sl ([.ref (ad a0), .int x1])).length) Slot.unset).toArray = ls at hl ⊢
  have hl : lv_has ls 4 [(0, .ref (ad a0)), (1, .int x1)] := hl
  have iX4 := (show ∀ w ∈ u_ws RX4 TX4 6, w ∈ wsX4_setAt by decide +kernel)
  have f21 := hts (.fieldLink RX4 21 "AdventureParser$World" "count" "I") (by decide +kernel)
  have f18 := hts (.fieldLink RX4 18 "AdventureParser$World" "places" "[I") (by decide +kernel)
  clear hB0
  have hL_4 : ∀ (k : Nat), ∀ (w1 : Int32) (w2 : Int32) (w3 : Int32) (H : Heap) (locs : List Loc) (ls : Array Slot), va_P D vwCl (gW cy ad v u) H → va_S (gA z0) s.heap H locs → lv_has ls 4 [(0, .ref (ad a0)), (1, .int w1), (2, .int w2), (3, .int w3)] → sX4_setAt_4 n a0 k v w1 w2 w3 = some r0 → W p l e (headSpec wsX4_setAt ({ frames := 0, cells := 0, slots := 0, locals := 0 } : Room)).room s m ([.ref (ad a0), .int x1] : List Value).toArray below meth c H locs 0 0 (MQ below (gQi D cy ad tL z0 v u r0) ([.ref (ad a0), .int x1] : List Value).toArray s 0 0 (gA z0)) (F0 m 4 ls []) := by
    intro k
    induction k with
    | zero =>
      intro w1 w2 w3 H locs ls hP hS hl hs
      exact g_none hs
    | succ k ih =>
      intro w1 w2 w3 H locs ls hP hS hl hs
      rw [sX4_setAt_4] at hs
      refine lv_iload_n hx hb dX4_setAt_4 rfl (lv_at hl 3 rfl) ?_
      refine lv_aload_n hx hb dX4_setAt_5 rfl (lv_at hl 0 rfl) ?_
      refine va_get (D := D) (ci := 4) (v := .int (v a0 3)) (C := RX4) (T := TX4) (N := 6) hx hb hts iX4 hown hK.1 hP a0 (gW_4 hk0) rfl 3 (by decide) f21 (fun _ h9 => h9) rfl dX4_setAt_6 ?_
      refine lv_icmp_ge (tgt := 40) hx hb dX4_setAt_9 (by decide) (fun hc => ?_) (fun hc => ?_)
      · have hs := g_t hs hc
        refine lv_iload_n hx hb dX4_setAt_40 rfl (lv_at hl 2 rfl) ?_
        exact gRet_i hx hb hr hlocks hK hP hS ⟨g_some hs, rfl⟩ dX4_setAt_41
      · have hs := g_f hs hc
        refine lv_iload_n hx hb dX4_setAt_12 rfl (lv_at hl 3 rfl) ?_
        refine lv_bipush (v := 12) hx hb dX4_setAt_13 (by decide) ?_
        refine lv_icmp_ge (tgt := 40) hx hb dX4_setAt_15 (by decide) (fun hc => ?_) (fun hc => ?_)
        · have hs := g_t hs hc
          refine lv_iload_n hx hb dX4_setAt_40 rfl (lv_at hl 2 rfl) ?_
          exact gRet_i hx hb hr hlocks hK hP hS ⟨g_some hs, rfl⟩ dX4_setAt_41
        · have hs := g_f hs hc
          refine lv_aload_n hx hb dX4_setAt_18 rfl (lv_at hl 0 rfl) ?_
          refine va_get (D := D) (ci := 4) (v := .ref (ad (a0 + 3))) (C := RX4) (T := TX4) (N := 6) hx hb hts iX4 hown hK.1 hP a0 (gW_4 hk0) rfl 2 (by decide) f18 (fun _ h9 => h9) rfl dX4_setAt_19 ?_
          refine lv_iload_n hx hb dX4_setAt_22 rfl (lv_at hl 3 rfl) ?_
          refine g_chk hs (fun hc hs => ?_)
          refine va_iald hx hb hK.1 hP (a0 + 3) 0 (gW_12 (kd_4_3 hk0)) rfl hc dX4_setAt_23 ?_
          refine lv_iload_n hx hb dX4_setAt_24 rfl (lv_at hl 1 rfl) ?_
          refine lv_icmp_ne (tgt := 34) hx hb dX4_setAt_25 (by decide) (fun hc => ?_) (fun hc => ?_)
          · have hs := g_f hs hc
            refine lv_iinc (v := w3 + 1) (lv' := [(3, .int (w3 + 1)), (0, .ref (ad a0)), (1, .int w1), (2, .int w2)]) hx hb dX4_setAt_34 hl (k := 3) rfl rfl (by decide) rfl (fun ls hl => ?_)
            refine lv_goto (tgt := 4) hx hb dX4_setAt_37 (by decide) ?_
            exact ih w1 w2 (w3 + 1) _ _ _ hP hS (lv_sub hl [1, 2, 3, 0] rfl) hs
          · have hs := g_t hs hc
            refine lv_iload_n hx hb dX4_setAt_28 rfl (lv_at hl 2 rfl) ?_
            refine lv_iconst (v := 1) hx hb dX4_setAt_29 (by decide) ?_
            refine lv_iload_n hx hb dX4_setAt_30 rfl (lv_at hl 3 rfl) ?_
            refine lv_ishl hx hb dX4_setAt_31 ?_
            refine lv_ior hx hb dX4_setAt_32 ?_
            refine lv_istore_n (lv' := [(2, .int (w2 ||| ((1 : Int32) <<< (w3 &&& 31)))), (0, .ref (ad a0)), (1, .int w1), (3, .int w3)]) hx hb dX4_setAt_33 rfl hl (by decide) rfl (fun ls hl => ?_)
            refine lv_iinc (v := w3 + 1) (lv' := [(3, .int (w3 + 1)), (2, .int (w2 ||| ((1 : Int32) <<< (w3 &&& 31)))), (0, .ref (ad a0)), (1, .int w1)]) hx hb dX4_setAt_34 hl (k := 3) rfl rfl (by decide) rfl (fun ls hl => ?_)
            refine lv_goto (tgt := 4) hx hb dX4_setAt_37 (by decide) ?_
            exact ih w1 (w2 ||| ((1 : Int32) <<< (w3 &&& 31))) (w3 + 1) _ _ _ hP hS (lv_sub hl [2, 3, 1, 0] rfl) hs
  unfold sX4_setAt at hs
  refine lv_iconst (v := 0) hx hb dX4_setAt_0 (by decide) ?_
  refine lv_istore_n (lv' := [(2, .int 0), (0, .ref (ad a0)), (1, .int x1)]) hx hb dX4_setAt_1 rfl hl (by decide) rfl (fun ls hl => ?_)
  refine lv_iconst (v := 0) hx hb dX4_setAt_2 (by decide) ?_
  refine lv_istore_n (lv' := [(3, .int 0), (2, .int 0), (0, .ref (ad a0)), (1, .int x1)]) hx hb dX4_setAt_3 rfl hl (by decide) rfl (fun ls hl => ?_)
  exact hL_4 n x1 0 0 _ _ _ hP hS (lv_sub hl [2, 3, 1, 0] rfl) hs
set_option maxHeartbeats 4000000 in
set_option maxRecDepth 100000 in
theorem cX4_visibleSet_c (l : Launch) (D : va_G) (cy : Nat → ClassId) (ad : Nat → Nat) (tL z0 : Nat) (hI : gI z0 ad) (n : Nat) (v : gV) (u : Int64) (a0 : Nat) (r0 : Int32) (hk0 : kd a0 = 4) (hs : sX4_visibleSet n v a0 = some r0) : Met l yX4_visibleSet wsX4_visibleSet ({ frames := 1, cells := 0, slots := 0, locals := 23 } : Room) (gPc D cy ad tL z0 v u [.ref (ad a0)]) (gQi D cy ad tL z0 v u r0) 0 0 (gA z0) := by
  refine Met.ofW (cc := cX4_visibleSet) (maxL := 4) (ret := (some .int)) (by decide) rfl ?_
  intro p e s m args below meth c s₁ B hml hv
  obtain ⟨rfl, hB0⟩ := hv
  have hP : va_P D vwCl (gW cy ad v u) s.heap := hB0.1
  have hK : gK D cy tL z0 s s.heap := hB0.2
  have hx := B.exec
  have hb := B.bytes
  have hr := B.returns
  have hts := atoms_spec (ws := wsX4_visibleSet) B.pre
  have hown : s.vm.findClass RX4 = some m.cls := findClass_of_methodNamed B.named
  have hlocks := B.notSynchronized
  have hS : va_S (gA z0) s.heap s.heap [] := va_S.rf
  have hl := lv_entry ([.ref (ad a0)]) (n := 4) (Nat.le_of_ble_eq_true rfl)
  rw [lg_entry_eq]
  generalize (lg_sl ([.ref (ad a0)]) ++ List.replicate (4 - (lg_sl ([.ref (ad a0)])).length) Slot.unset).toArray = ls at hl ⊢
  have hl : lv_has ls 4 [(0, .ref (ad a0))] := hl
  have iX4 := (show ∀ w ∈ u_ws RX4 TX4 6, w ∈ wsX4_visibleSet by decide +kernel)
  have f25 := hts (.fieldLink RX4 25 "AdventureParser$World" "room" "I") (by decide +kernel)
  have f28 := hts (.fieldLink RX4 28 "AdventureParser$World" "openSet" "I") (by decide +kernel)
  clear hB0
  have hL_19 : ∀ (k : Nat), ∀ (w1 : Int32) (w2 : Int32) (w3 : Int32) (H : Heap) (locs : List Loc) (ls : Array Slot), va_P D vwCl (gW cy ad v u) H → va_S (gA z0) s.heap H locs → lv_has ls 4 [(0, .ref (ad a0)), (1, .int w1), (2, .int w2), (3, .int w3)] → sX4_visibleSet_19 n a0 k v w1 w2 w3 = some r0 → W p l e (headSpec wsX4_visibleSet ({ frames := 1, cells := 0, slots := 0, locals := 23 } : Room)).room s m ([.ref (ad a0)] : List Value).toArray below meth c H locs 0 0 (MQ below (gQi D cy ad tL z0 v u r0) ([.ref (ad a0)] : List Value).toArray s 0 0 (gA z0)) (F0 m 19 ls []) := by
    intro k
    induction k with
    | zero =>
      intro w1 w2 w3 H locs ls hP hS hl hs
      exact g_none hs
    | succ k ih =>
      intro w1 w2 w3 H locs ls hP hS hl hs
      rw [sX4_visibleSet_19] at hs
      refine lv_iload_n hx hb dX4_visibleSet_19 rfl (lv_at hl 3 rfl) ?_
      refine lv_bipush (v := 12) hx hb dX4_visibleSet_20 (by decide) ?_
      refine lv_icmp_ge (tgt := 54) hx hb dX4_visibleSet_22 (by decide) (fun hc => ?_) (fun hc => ?_)
      · have hs := g_t hs hc
        refine lv_iload_n hx hb dX4_visibleSet_54 rfl (lv_at hl 2 rfl) ?_
        exact gRet_i hx hb hr hlocks hK hP hS ⟨g_some hs, rfl⟩ dX4_visibleSet_55
      · have hs := g_f hs hc
        refine lv_iload_n hx hb dX4_visibleSet_25 rfl (lv_at hl 1 rfl) ?_
        refine lv_aload_n hx hb dX4_visibleSet_26 rfl (lv_at hl 0 rfl) ?_
        refine va_get (D := D) (ci := 4) (v := .int (v a0 5)) (C := RX4) (T := TX4) (N := 6) hx hb hts iX4 hown hK.1 hP a0 (gW_4 hk0) rfl 5 (by decide) f28 (fun _ h9 => h9) rfl dX4_visibleSet_27 ?_
        refine lv_iand hx hb dX4_visibleSet_30 ?_
        refine lv_iconst (v := 1) hx hb dX4_visibleSet_31 (by decide) ?_
        refine lv_iload_n hx hb dX4_visibleSet_32 rfl (lv_at hl 3 rfl) ?_
        refine lv_ishl hx hb dX4_visibleSet_33 ?_
        refine lv_iand hx hb dX4_visibleSet_34 ?_
        refine lv_if_eq (tgt := 48) hx hb dX4_visibleSet_35 (by decide) (fun hc => ?_) (fun hc => ?_)
        · have hs := g_t hs hc
          refine lv_iinc (v := w3 + 1) (lv' := [(3, .int (w3 + 1)), (0, .ref (ad a0)), (1, .int w1), (2, .int w2)]) hx hb dX4_visibleSet_48 hl (k := 3) rfl rfl (by decide) rfl (fun ls hl => ?_)
          refine lv_goto (tgt := 19) hx hb dX4_visibleSet_51 (by decide) ?_
          exact ih w1 w2 (w3 + 1) _ _ _ hP hS (lv_sub hl [1, 2, 3, 0] rfl) hs
        · have hs := g_f hs hc
          refine lv_iload_n hx hb dX4_visibleSet_38 rfl (lv_at hl 2 rfl) ?_
          refine lv_aload_n hx hb dX4_visibleSet_39 rfl (lv_at hl 0 rfl) ?_
          refine lv_iconst (v := 5) hx hb dX4_visibleSet_40 (by decide) ?_
          refine lv_iload_n hx hb dX4_visibleSet_41 rfl (lv_at hl 3 rfl) ?_
          refine lv_iadd hx hb dX4_visibleSet_42 ?_
          refine g_bind hs (fun q_3 hq_3 hs => ?_)
          refine gCV_i (As := [.int (5 + w3)]) (rest := [.int w2]) ⟨hx, hb, hml, hown, hts⟩ (cX4_setAt_c l D cy ad tL z0 hI n v u a0 (5 + w3) q_3 hk0 hq_3) (cwV 1 hts gX4_visibleSet_X4_setAt rfl rfl rfl (by decide +kernel) ⟨Nat.le_of_ble_eq_true rfl, Nat.le_of_ble_eq_true rfl⟩) hK hP hS (va_recv hK.1 hP (ci := 4) (q0 := a0) rfl (gW_4 hk0)) hl.1 rfl rfl (Nat.le_of_ble_eq_true rfl) dX4_visibleSet_43 ⟨Nat.zero_le _, Nat.zero_le _⟩ (fun H locs hP hS => ?_)
          refine lv_ior hx hb dX4_visibleSet_46 ?_
          refine lv_istore_n (lv' := [(2, .int (w2 ||| q_3)), (0, .ref (ad a0)), (1, .int w1), (3, .int w3)]) hx hb dX4_visibleSet_47 rfl hl (by decide) rfl (fun ls hl => ?_)
          refine lv_iinc (v := w3 + 1) (lv' := [(3, .int (w3 + 1)), (2, .int (w2 ||| q_3)), (0, .ref (ad a0)), (1, .int w1)]) hx hb dX4_visibleSet_48 hl (k := 3) rfl rfl (by decide) rfl (fun ls hl => ?_)
          refine lv_goto (tgt := 19) hx hb dX4_visibleSet_51 (by decide) ?_
          exact ih w1 (w2 ||| q_3) (w3 + 1) _ _ _ hP hS (lv_sub hl [2, 3, 1, 0] rfl) hs
  unfold sX4_visibleSet at hs
  refine lv_aload_n hx hb dX4_visibleSet_0 rfl (lv_at hl 0 rfl) ?_
  refine lv_aload_n hx hb dX4_visibleSet_1 rfl (lv_at hl 0 rfl) ?_
  refine va_get (D := D) (ci := 4) (v := .int (v a0 4)) (C := RX4) (T := TX4) (N := 6) hx hb hts iX4 hown hK.1 hP a0 (gW_4 hk0) rfl 4 (by decide) f25 (fun _ h9 => h9) rfl dX4_visibleSet_2 ?_
  refine g_bind hs (fun q_1 hq_1 hs => ?_)
  refine gCV_i (As := [.int (v a0 4)]) (rest := []) ⟨hx, hb, hml, hown, hts⟩ (cX4_setAt_c l D cy ad tL z0 hI n v u a0 (v a0 4) q_1 hk0 hq_1) (cwV 1 hts gX4_visibleSet_X4_setAt rfl rfl rfl (by decide +kernel) ⟨Nat.le_of_ble_eq_true rfl, Nat.le_of_ble_eq_true rfl⟩) hK hP hS (va_recv hK.1 hP (ci := 4) (q0 := a0) rfl (gW_4 hk0)) hl.1 rfl rfl (Nat.le_of_ble_eq_true rfl) dX4_visibleSet_5 ⟨Nat.zero_le _, Nat.zero_le _⟩ (fun H locs hP hS => ?_)
  refine lv_aload_n hx hb dX4_visibleSet_8 rfl (lv_at hl 0 rfl) ?_
  refine lv_iconst (v := 4) hx hb dX4_visibleSet_9 (by decide) ?_
  refine g_bind hs (fun q_2 hq_2 hs => ?_)
  refine gCV_i (As := [.int 4]) (rest := [.int q_1]) ⟨hx, hb, hml, hown, hts⟩ (cX4_setAt_c l D cy ad tL z0 hI n v u a0 4 q_2 hk0 hq_2) (cwV 1 hts gX4_visibleSet_X4_setAt rfl rfl rfl (by decide +kernel) ⟨Nat.le_of_ble_eq_true rfl, Nat.le_of_ble_eq_true rfl⟩) hK hP hS (va_recv hK.1 hP (ci := 4) (q0 := a0) rfl (gW_4 hk0)) hl.1 rfl rfl (Nat.le_of_ble_eq_true rfl) dX4_visibleSet_10 ⟨Nat.zero_le _, Nat.zero_le _⟩ (fun H locs hP hS => ?_)
  refine lv_ior hx hb dX4_visibleSet_13 ?_
  refine lv_istore_n (lv' := [(1, .int (q_1 ||| q_2)), (0, .ref (ad a0))]) hx hb dX4_visibleSet_14 rfl hl (by decide) rfl (fun ls hl => ?_)
  refine lv_iload_n hx hb dX4_visibleSet_15 rfl (lv_at hl 0 rfl) ?_
  refine lv_istore_n (lv' := [(2, .int (q_1 ||| q_2)), (1, .int (q_1 ||| q_2)), (0, .ref (ad a0))]) hx hb dX4_visibleSet_16 rfl hl (by decide) rfl (fun ls hl => ?_)
  refine lv_iconst (v := 0) hx hb dX4_visibleSet_17 (by decide) ?_
  refine lv_istore_n (lv' := [(3, .int 0), (2, .int (q_1 ||| q_2)), (1, .int (q_1 ||| q_2)), (0, .ref (ad a0))]) hx hb dX4_visibleSet_18 rfl hl (by decide) rfl (fun ls hl => ?_)
  exact hL_19 n (q_1 ||| q_2) (q_1 ||| q_2) 0 _ _ _ hP hS (lv_sub hl [3, 2, 1, 0] rfl) hs
set_option maxHeartbeats 4000000 in
set_option maxRecDepth 100000 in
theorem cX4_containerSet_c (l : Launch) (D : va_G) (cy : Nat → ClassId) (ad : Nat → Nat) (tL z0 : Nat) (hI : gI z0 ad) (n : Nat) (v : gV) (u : Int64) (a0 : Nat) (r0 : Int32) (hk0 : kd a0 = 4) (hs : sX4_containerSet n v a0 = some r0) : Met l yX4_containerSet wsX4_containerSet ({ frames := 1, cells := 0, slots := 0, locals := 24 } : Room) (gPc D cy ad tL z0 v u [.ref (ad a0)]) (gQi D cy ad tL z0 v u r0) 0 0 (gA z0) := by
  refine Met.ofW (cc := cX4_containerSet) (maxL := 1) (ret := (some .int)) (by decide) rfl ?_
  intro p e s m args below meth c s₁ B hml hv
  obtain ⟨rfl, hB0⟩ := hv
  have hP : va_P D vwCl (gW cy ad v u) s.heap := hB0.1
  have hK : gK D cy tL z0 s s.heap := hB0.2
  have hx := B.exec
  have hb := B.bytes
  have hr := B.returns
  have hts := atoms_spec (ws := wsX4_containerSet) B.pre
  have hown : s.vm.findClass RX4 = some m.cls := findClass_of_methodNamed B.named
  have hlocks := B.notSynchronized
  have hS : va_S (gA z0) s.heap s.heap [] := va_S.rf
  have hl := lv_entry ([.ref (ad a0)]) (n := 1) (Nat.le_of_ble_eq_true rfl)
  rw [lg_entry_eq]
  generalize (lg_sl ([.ref (ad a0)]) ++ List.replicate (1 - (lg_sl ([.ref (ad a0)])).length) Slot.unset).toArray = ls at hl ⊢
  have hl : lv_has ls 1 [(0, .ref (ad a0))] := hl
  clear hB0
  unfold sX4_containerSet at hs
  refine lv_aload_n hx hb dX4_containerSet_0 rfl (lv_at hl 0 rfl) ?_
  refine lv_iconst (v := 1) hx hb dX4_containerSet_1 (by decide) ?_
  refine lv_iconst (v := (-1)) hx hb dX4_containerSet_2 (by decide) ?_
  refine g_bind hs (fun q_1 hq_1 hs => ?_)
  refine gCV_i (As := [.int 1, .int ((-1))]) (rest := []) ⟨hx, hb, hml, hown, hts⟩ (cX4_fittingSet_c l D cy ad tL z0 hI n v u a0 1 ((-1)) q_1 hk0 hq_1) (cwV 2 hts gX4_containerSet_X4_fittingSet rfl rfl rfl (by decide +kernel) ⟨Nat.le_of_ble_eq_true rfl, Nat.le_of_ble_eq_true rfl⟩) hK hP hS (va_recv hK.1 hP (ci := 4) (q0 := a0) rfl (gW_4 hk0)) hl.1 rfl rfl (Nat.le_of_ble_eq_true rfl) dX4_containerSet_3 ⟨Nat.zero_le _, Nat.zero_le _⟩ (fun H locs hP hS => ?_)
  refine lv_aload_n hx hb dX4_containerSet_6 rfl (lv_at hl 0 rfl) ?_
  refine lv_iconst (v := 5) hx hb dX4_containerSet_7 (by decide) ?_
  refine lv_iconst (v := (-1)) hx hb dX4_containerSet_8 (by decide) ?_
  refine g_bind hs (fun q_2 hq_2 hs => ?_)
  refine gCV_i (As := [.int 5, .int ((-1))]) (rest := [.int q_1]) ⟨hx, hb, hml, hown, hts⟩ (cX4_fittingSet_c l D cy ad tL z0 hI n v u a0 5 ((-1)) q_2 hk0 hq_2) (cwV 2 hts gX4_containerSet_X4_fittingSet rfl rfl rfl (by decide +kernel) ⟨Nat.le_of_ble_eq_true rfl, Nat.le_of_ble_eq_true rfl⟩) hK hP hS (va_recv hK.1 hP (ci := 4) (q0 := a0) rfl (gW_4 hk0)) hl.1 rfl rfl (Nat.le_of_ble_eq_true rfl) dX4_containerSet_9 ⟨Nat.zero_le _, Nat.zero_le _⟩ (fun H locs hP hS => ?_)
  refine lv_ior hx hb dX4_containerSet_12 ?_
  exact gRet_i hx hb hr hlocks hK hP hS ⟨g_some hs, rfl⟩ dX4_containerSet_13
set_option maxHeartbeats 4000000 in
set_option maxRecDepth 100000 in
theorem cX4_suitableSet_c (l : Launch) (D : va_G) (cy : Nat → ClassId) (ad : Nat → Nat) (tL z0 : Nat) (hI : gI z0 ad) (n : Nat) (v : gV) (u : Int64) (a0 : Nat) (x1 : Int32) (r0 : Int32) (hk0 : kd a0 = 4) (hs : sX4_suitableSet n v a0 x1 = some r0) : Met l yX4_suitableSet wsX4_suitableSet ({ frames := 2, cells := 0, slots := 0, locals := 46 } : Room) (gPc D cy ad tL z0 v u [.ref (ad a0), .int x1]) (gQi D cy ad tL z0 v u r0) 0 0 (gA z0) := by
  refine Met.ofW (cc := cX4_suitableSet) (maxL := 3) (ret := (some .int)) (by decide) rfl ?_
  intro p e s m args below meth c s₁ B hml hv
  obtain ⟨rfl, hB0⟩ := hv
  have hP : va_P D vwCl (gW cy ad v u) s.heap := hB0.1
  have hK : gK D cy tL z0 s s.heap := hB0.2
  have hx := B.exec
  have hb := B.bytes
  have hr := B.returns
  have hts := atoms_spec (ws := wsX4_suitableSet) B.pre
  have hown : s.vm.findClass RX4 = some m.cls := findClass_of_methodNamed B.named
  have hlocks := B.notSynchronized
  have hS : va_S (gA z0) s.heap s.heap [] := va_S.rf
  have hl := lv_entry ([.ref (ad a0), .int x1]) (n := 3) (Nat.le_of_ble_eq_true rfl)
  rw [lg_entry_eq]
  generalize (lg_sl ([.ref (ad a0), .int x1]) ++ List.replicate (3 - (lg_sl ([.ref (ad a0), .int x1])).length) Slot.unset).toArray = ls at hl ⊢
  have hl : lv_has ls 3 [(0, .ref (ad a0)), (1, .int x1)] := hl
  have iX4 := (show ∀ w ∈ u_ws RX4 TX4 6, w ∈ wsX4_suitableSet by decide +kernel)
  have f28 := hts (.fieldLink RX4 28 "AdventureParser$World" "openSet" "I") (by decide +kernel)
  clear hB0
  unfold sX4_suitableSet at hs
  refine lv_aload_n hx hb dX4_suitableSet_0 rfl (lv_at hl 0 rfl) ?_
  refine lv_iconst (v := 4) hx hb dX4_suitableSet_1 (by decide) ?_
  refine g_bind hs (fun q_1 hq_1 hs => ?_)
  refine gCV_i (As := [.int 4]) (rest := []) ⟨hx, hb, hml, hown, hts⟩ (cX4_setAt_c l D cy ad tL z0 hI n v u a0 4 q_1 hk0 hq_1) (cwV 1 hts gX4_suitableSet_X4_setAt rfl rfl rfl (by decide +kernel) ⟨Nat.le_of_ble_eq_true rfl, Nat.le_of_ble_eq_true rfl⟩) hK hP hS (va_recv hK.1 hP (ci := 4) (q0 := a0) rfl (gW_4 hk0)) hl.1 rfl rfl (Nat.le_of_ble_eq_true rfl) dX4_suitableSet_2 ⟨Nat.zero_le _, Nat.zero_le _⟩ (fun H locs hP hS => ?_)
  refine lv_istore_n (lv' := [(2, .int q_1), (0, .ref (ad a0)), (1, .int x1)]) hx hb dX4_suitableSet_5 rfl hl (by decide) rfl (fun ls hl => ?_)
  refine lv_iload_n hx hb dX4_suitableSet_6 rfl (lv_at hl 2 rfl) ?_
  by_cases hc7_0 : x1 = 0
  · have hs := g_t hs hc7_0
    refine lv_tableIn (off := 33) (tgt := 40) hx hb dX4_suitableSet_7 (by rw [hc7_0]; decide) (by rw [hc7_0]; decide) (by rw [hc7_0]; rfl) (by decide) ?_
    refine lv_aload_n hx hb dX4_suitableSet_40 rfl (lv_at hl 1 rfl) ?_
    refine g_bind hs (fun q_2 hq_2 hs => ?_)
    refine gCV_i (As := []) (rest := []) ⟨hx, hb, hml, hown, hts⟩ (cX4_visibleSet_c l D cy ad tL z0 hI n v u a0 q_2 hk0 hq_2) (cwV 0 hts gX4_suitableSet_X4_visibleSet rfl rfl rfl (by decide +kernel) ⟨Nat.le_of_ble_eq_true rfl, Nat.le_of_ble_eq_true rfl⟩) hK hP hS (va_recv hK.1 hP (ci := 4) (q0 := a0) rfl (gW_4 hk0)) hl.1 rfl rfl (Nat.le_of_ble_eq_true rfl) dX4_suitableSet_41 ⟨Nat.zero_le _, Nat.zero_le _⟩ (fun H locs hP hS => ?_)
    refine lv_iload_n hx hb dX4_suitableSet_44 rfl (lv_at hl 0 rfl) ?_
    refine lv_iconst (v := (-1)) hx hb dX4_suitableSet_45 (by decide) ?_
    refine lv_ixor hx hb dX4_suitableSet_46 ?_
    refine lv_iand hx hb dX4_suitableSet_47 ?_
    exact gRet_i hx hb hr hlocks hK hP hS ⟨g_some hs, rfl⟩ dX4_suitableSet_48
  have hs := g_f hs hc7_0
  by_cases hc7_1 : x1 = 1
  · have hs := g_t hs hc7_1
    refine lv_tableIn (off := 42) (tgt := 49) hx hb dX4_suitableSet_7 (by rw [hc7_1]; decide) (by rw [hc7_1]; decide) (by rw [hc7_1]; rfl) (by decide) ?_
    refine lv_iload_n hx hb dX4_suitableSet_49 rfl (lv_at hl 0 rfl) ?_
    exact gRet_i hx hb hr hlocks hK hP hS ⟨g_some hs, rfl⟩ dX4_suitableSet_50
  have hs := g_f hs hc7_1
  by_cases hc7_2 : x1 = 2
  · have hs := g_t hs hc7_2
    refine lv_tableIn (off := 44) (tgt := 51) hx hb dX4_suitableSet_7 (by rw [hc7_2]; decide) (by rw [hc7_2]; decide) (by rw [hc7_2]; rfl) (by decide) ?_
    refine lv_iload_n hx hb dX4_suitableSet_51 rfl (lv_at hl 0 rfl) ?_
    refine lv_aload_n hx hb dX4_suitableSet_52 rfl (lv_at hl 1 rfl) ?_
    refine g_bind hs (fun q_3 hq_3 hs => ?_)
    refine gCV_i (As := []) (rest := [.int q_1]) ⟨hx, hb, hml, hown, hts⟩ (cX4_containerSet_c l D cy ad tL z0 hI n v u a0 q_3 hk0 hq_3) (cwV 0 hts gX4_suitableSet_X4_containerSet rfl rfl rfl (by decide +kernel) ⟨Nat.le_of_ble_eq_true rfl, Nat.le_of_ble_eq_true rfl⟩) hK hP hS (va_recv hK.1 hP (ci := 4) (q0 := a0) rfl (gW_4 hk0)) hl.1 rfl rfl (Nat.le_of_ble_eq_true rfl) dX4_suitableSet_53 ⟨Nat.zero_le _, Nat.zero_le _⟩ (fun H locs hP hS => ?_)
    refine lv_iconst (v := (-1)) hx hb dX4_suitableSet_56 (by decide) ?_
    refine lv_ixor hx hb dX4_suitableSet_57 ?_
    refine lv_iand hx hb dX4_suitableSet_58 ?_
    exact gRet_i hx hb hr hlocks hK hP hS ⟨g_some hs, rfl⟩ dX4_suitableSet_59
  have hs := g_f hs hc7_2
  by_cases hc7_3 : x1 = 3
  · have hs := g_t hs hc7_3
    refine lv_tableIn (off := 53) (tgt := 60) hx hb dX4_suitableSet_7 (by rw [hc7_3]; decide) (by rw [hc7_3]; decide) (by rw [hc7_3]; rfl) (by decide) ?_
    refine lv_aload_n hx hb dX4_suitableSet_60 rfl (lv_at hl 1 rfl) ?_
    refine g_bind hs (fun q_4 hq_4 hs => ?_)
    refine gCV_i (As := []) (rest := []) ⟨hx, hb, hml, hown, hts⟩ (cX4_visibleSet_c l D cy ad tL z0 hI n v u a0 q_4 hk0 hq_4) (cwV 0 hts gX4_suitableSet_X4_visibleSet rfl rfl rfl (by decide +kernel) ⟨Nat.le_of_ble_eq_true rfl, Nat.le_of_ble_eq_true rfl⟩) hK hP hS (va_recv hK.1 hP (ci := 4) (q0 := a0) rfl (gW_4 hk0)) hl.1 rfl rfl (Nat.le_of_ble_eq_true rfl) dX4_suitableSet_61 ⟨Nat.zero_le _, Nat.zero_le _⟩ (fun H locs hP hS => ?_)
    refine lv_aload_n hx hb dX4_suitableSet_64 rfl (lv_at hl 1 rfl) ?_
    refine g_bind hs (fun q_5 hq_5 hs => ?_)
    refine gCV_i (As := []) (rest := [.int q_4]) ⟨hx, hb, hml, hown, hts⟩ (cX4_containerSet_c l D cy ad tL z0 hI n v u a0 q_5 hk0 hq_5) (cwV 0 hts gX4_suitableSet_X4_containerSet rfl rfl rfl (by decide +kernel) ⟨Nat.le_of_ble_eq_true rfl, Nat.le_of_ble_eq_true rfl⟩) hK hP hS (va_recv hK.1 hP (ci := 4) (q0 := a0) rfl (gW_4 hk0)) hl.1 rfl rfl (Nat.le_of_ble_eq_true rfl) dX4_suitableSet_65 ⟨Nat.zero_le _, Nat.zero_le _⟩ (fun H locs hP hS => ?_)
    refine lv_iand hx hb dX4_suitableSet_68 ?_
    refine lv_aload_n hx hb dX4_suitableSet_69 rfl (lv_at hl 1 rfl) ?_
    refine va_get (D := D) (ci := 4) (v := .int (v a0 5)) (C := RX4) (T := TX4) (N := 6) hx hb hts iX4 hown hK.1 hP a0 (gW_4 hk0) rfl 5 (by decide) f28 (fun _ h9 => h9) rfl dX4_suitableSet_70 ?_
    refine lv_iconst (v := (-1)) hx hb dX4_suitableSet_73 (by decide) ?_
    refine lv_ixor hx hb dX4_suitableSet_74 ?_
    refine lv_iand hx hb dX4_suitableSet_75 ?_
    exact gRet_i hx hb hr hlocks hK hP hS ⟨g_some hs, rfl⟩ dX4_suitableSet_76
  have hs := g_f hs hc7_3
  by_cases hc7_4 : x1 = 4
  · have hs := g_t hs hc7_4
    refine lv_tableIn (off := 70) (tgt := 77) hx hb dX4_suitableSet_7 (by rw [hc7_4]; decide) (by rw [hc7_4]; decide) (by rw [hc7_4]; rfl) (by decide) ?_
    refine lv_aload_n hx hb dX4_suitableSet_77 rfl (lv_at hl 1 rfl) ?_
    refine g_bind hs (fun q_6 hq_6 hs => ?_)
    refine gCV_i (As := []) (rest := []) ⟨hx, hb, hml, hown, hts⟩ (cX4_visibleSet_c l D cy ad tL z0 hI n v u a0 q_6 hk0 hq_6) (cwV 0 hts gX4_suitableSet_X4_visibleSet rfl rfl rfl (by decide +kernel) ⟨Nat.le_of_ble_eq_true rfl, Nat.le_of_ble_eq_true rfl⟩) hK hP hS (va_recv hK.1 hP (ci := 4) (q0 := a0) rfl (gW_4 hk0)) hl.1 rfl rfl (Nat.le_of_ble_eq_true rfl) dX4_suitableSet_78 ⟨Nat.zero_le _, Nat.zero_le _⟩ (fun H locs hP hS => ?_)
    refine lv_aload_n hx hb dX4_suitableSet_81 rfl (lv_at hl 1 rfl) ?_
    refine va_get (D := D) (ci := 4) (v := .int (v a0 5)) (C := RX4) (T := TX4) (N := 6) hx hb hts iX4 hown hK.1 hP a0 (gW_4 hk0) rfl 5 (by decide) f28 (fun _ h9 => h9) rfl dX4_suitableSet_82 ?_
    refine lv_iand hx hb dX4_suitableSet_85 ?_
    exact gRet_i hx hb hr hlocks hK hP hS ⟨g_some hs, rfl⟩ dX4_suitableSet_86
  have hs := g_f hs hc7_4
  refine lv_tableOut (tgt := 87) hx hb dX4_suitableSet_7 (by have n0 := g_neI (i := 0) hc7_0 (by decide); have n1 := g_neI (i := 1) hc7_1 (by decide); have n2 := g_neI (i := 2) hc7_2 (by decide); have n3 := g_neI (i := 3) hc7_3 (by decide); have n4 := g_neI (i := 4) hc7_4 (by decide); omega) (by decide) ?_
  refine lv_iconst (v := 0) hx hb dX4_suitableSet_87 (by decide) ?_
  exact gRet_i hx hb hr hlocks hK hP hS ⟨g_some hs, rfl⟩ dX4_suitableSet_88
set_option maxHeartbeats 4000000 in
set_option maxRecDepth 100000 in
theorem cX3_orNothingSuitable_c (l : Launch) (D : va_G) (cy : Nat → ClassId) (ad : Nat → Nat) (tL z0 : Nat) (hI : gI z0 ad) (v : gV) (u : Int64) (x0 : Int32) (r0 : Int32) (hs : sX3_orNothingSuitable x0 = some r0) : Met l yX3_orNothingSuitable wsX3_orNothingSuitable ({ frames := 0, cells := 0, slots := 0, locals := 0 } : Room) (gPc D cy ad tL z0 v u [.int x0]) (gQi D cy ad tL z0 v u r0) 0 0 (gA z0) := by
  refine Met.ofW (cc := cX3_orNothingSuitable) (maxL := 1) (ret := (some .int)) (by decide) rfl ?_
  intro p e s m args below meth c s₁ B hml hv
  obtain ⟨rfl, hB0⟩ := hv
  have hP : va_P D vwCl (gW cy ad v u) s.heap := hB0.1
  have hK : gK D cy tL z0 s s.heap := hB0.2
  have hx := B.exec
  have hb := B.bytes
  have hr := B.returns
  have hts := atoms_spec (ws := wsX3_orNothingSuitable) B.pre
  have hown : s.vm.findClass RX3 = some m.cls := findClass_of_methodNamed B.named
  have hlocks := B.notSynchronized
  have hS : va_S (gA z0) s.heap s.heap [] := va_S.rf
  have hl := lv_entry ([.int x0]) (n := 1) (Nat.le_of_ble_eq_true rfl)
  rw [lg_entry_eq]
  generalize (lg_sl ([.int x0]) ++ List.replicate (1 - (lg_sl ([.int x0])).length) Slot.unset).toArray = ls at hl ⊢
  have hl : lv_has ls 1 [(0, .int x0)] := hl
  clear hB0
  unfold sX3_orNothingSuitable at hs
  refine lv_iload_n hx hb dX3_orNothingSuitable_0 rfl (lv_at hl 0 rfl) ?_
  refine lv_if_ne (tgt := 9) hx hb dX3_orNothingSuitable_1 (by decide) (fun hc => ?_) (fun hc => ?_)
  · have hs := g_f hs hc
    refine lv_iload_n hx hb dX3_orNothingSuitable_9 rfl (lv_at hl 0 rfl) ?_
    exact gRet_i hx hb hr hlocks hK hP hS ⟨g_some hs, rfl⟩ dX3_orNothingSuitable_10
  · have hs := g_t hs hc
    refine lv_bipush (v := (-3)) hx hb dX3_orNothingSuitable_4 (by decide) ?_
    refine lv_goto (tgt := 10) hx hb dX3_orNothingSuitable_6 (by decide) ?_
    exact gRet_i hx hb hr hlocks hK hP hS ⟨g_some hs, rfl⟩ dX3_orNothingSuitable_10
set_option maxHeartbeats 4000000 in
set_option maxRecDepth 100000 in
theorem cX3_resolveSingle_c (l : Launch) (D : va_G) (cy : Nat → ClassId) (ad : Nat → Nat) (tL z0 : Nat) (hI : gI z0 ad) (v : gV) (u : Int64) (a0 : Nat) (x1 : Int32) (x2 : Int32) (r0 : Int32) (hk0 : kd a0 = 3) (hs : sX3_resolveSingle v a0 x1 x2 = some r0) : Met l yX3_resolveSingle wsX3_resolveSingle ({ frames := 1, cells := 0, slots := 0, locals := 20 } : Room) (gPc D cy ad tL z0 v u [.ref (ad a0), .int x1, .int x2]) (gQi D cy ad tL z0 v u r0) 0 0 (gA z0) := by
  refine Met.ofW (cc := cX3_resolveSingle) (maxL := 4) (ret := (some .int)) (by decide) rfl ?_
  intro p e s m args below meth c s₁ B hml hv
  obtain ⟨rfl, hB0⟩ := hv
  have hP : va_P D vwCl (gW cy ad v u) s.heap := hB0.1
  have hK : gK D cy tL z0 s s.heap := hB0.2
  have hx := B.exec
  have hb := B.bytes
  have hr := B.returns
  have hts := atoms_spec (ws := wsX3_resolveSingle) B.pre
  have hown : s.vm.findClass RX3 = some m.cls := findClass_of_methodNamed B.named
  have hlocks := B.notSynchronized
  have hS : va_S (gA z0) s.heap s.heap [] := va_S.rf
  have hl := lv_entry ([.ref (ad a0), .int x1, .int x2]) (n := 4) (Nat.le_of_ble_eq_true rfl)
  rw [lg_entry_eq]
  generalize (lg_sl ([.ref (ad a0), .int x1, .int x2]) ++ List.replicate (4 - (lg_sl ([.ref (ad a0), .int x1, .int x2])).length) Slot.unset).toArray = ls at hl ⊢
  have hl : lv_has ls 4 [(0, .ref (ad a0)), (1, .int x1), (2, .int x2)] := hl
  have iX3 := (show ∀ w ∈ u_ws RX3 TX3 9, w ∈ wsX3_resolveSingle by decide +kernel)
  have f25 := hts (.fieldLink RX3 25 "AdventureParser$State" "single" "I") (by decide +kernel)
  clear hB0
  unfold sX3_resolveSingle at hs
  refine lv_aload_n hx hb dX3_resolveSingle_0 rfl (lv_at hl 0 rfl) ?_
  refine va_get (D := D) (ci := 3) (v := .int (v a0 2)) (C := RX3) (T := TX3) (N := 9) hx hb hts iX3 hown hK.1 hP a0 (gW_3 hk0) rfl 2 (by decide) f25 (fun _ h9 => h9) rfl dX3_resolveSingle_1 ?_
  refine lv_iconst (v := (-1)) hx hb dX3_resolveSingle_4 (by decide) ?_
  refine lv_icmp_ne (tgt := 11) hx hb dX3_resolveSingle_5 (by decide) (fun hc => ?_) (fun hc => ?_)
  · have hs := g_f hs hc
    refine lv_iconst (v := 1) hx hb dX3_resolveSingle_11 (by decide) ?_
    refine lv_aload_n hx hb dX3_resolveSingle_12 rfl (lv_at hl 0 rfl) ?_
    refine va_get (D := D) (ci := 3) (v := .int (v a0 2)) (C := RX3) (T := TX3) (N := 9) hx hb hts iX3 hown hK.1 hP a0 (gW_3 hk0) rfl 2 (by decide) f25 (fun _ h9 => h9) rfl dX3_resolveSingle_13 ?_
    refine lv_ishl hx hb dX3_resolveSingle_16 ?_
    refine lv_istore_n (lv' := [(3, .int ((1 : Int32) <<< ((v a0 2) &&& 31))), (0, .ref (ad a0)), (1, .int x1), (2, .int x2)]) hx hb dX3_resolveSingle_17 rfl hl (by decide) rfl (fun ls hl => ?_)
    refine lv_iload_n hx hb dX3_resolveSingle_18 rfl (lv_at hl 0 rfl) ?_
    refine lv_iload_n hx hb dX3_resolveSingle_19 rfl (lv_at hl 2 rfl) ?_
    refine lv_iand hx hb dX3_resolveSingle_20 ?_
    refine lv_if_ne (tgt := 29) hx hb dX3_resolveSingle_21 (by decide) (fun hc => ?_) (fun hc => ?_)
    · have hs := g_f hs hc
      refine lv_iload_n hx hb dX3_resolveSingle_29 rfl (lv_at hl 0 rfl) ?_
      refine lv_iload_n hx hb dX3_resolveSingle_30 rfl (lv_at hl 3 rfl) ?_
      refine lv_iand hx hb dX3_resolveSingle_31 ?_
      refine g_bind hs (fun q_1 hq_1 hs => ?_)
      refine gCS_i (As := [.int (((1 : Int32) <<< ((v a0 2) &&& 31)) &&& x2)]) (rest := []) ⟨hx, hb, hml, hown, hts⟩ (cX3_orNothingSuitable_c l D cy ad tL z0 hI v u (((1 : Int32) <<< ((v a0 2) &&& 31)) &&& x2) q_1 hq_1) (va_cwS 1 hts gX3_resolveSingle_X3_orNothingSuitable rfl rfl rfl (by decide +kernel) ⟨Nat.le_of_ble_eq_true rfl, Nat.le_of_ble_eq_true rfl⟩) hK hP hS hl.1 rfl rfl (Nat.le_of_ble_eq_true rfl) dX3_resolveSingle_32 ⟨Nat.zero_le _, Nat.zero_le _⟩ (fun H locs hP hS => ?_)
      exact gRet_i hx hb hr hlocks hK hP hS ⟨g_some hs, rfl⟩ dX3_resolveSingle_35
    · have hs := g_t hs hc
      refine lv_bipush (v := (-2)) hx hb dX3_resolveSingle_24 (by decide) ?_
      refine lv_goto (tgt := 35) hx hb dX3_resolveSingle_26 (by decide) ?_
      exact gRet_i hx hb hr hlocks hK hP hS ⟨g_some hs, rfl⟩ dX3_resolveSingle_35
  · have hs := g_t hs hc
    refine lv_bipush (v := (-4)) hx hb dX3_resolveSingle_8 (by decide) ?_
    exact gRet_i hx hb hr hlocks hK hP hS ⟨g_some hs, rfl⟩ dX3_resolveSingle_10
set_option maxHeartbeats 4000000 in
set_option maxRecDepth 100000 in
theorem cX3_resolveDescription_c (l : Launch) (D : va_G) (cy : Nat → ClassId) (ad : Nat → Nat) (tL z0 : Nat) (hI : gI z0 ad) (n : Nat) (v : gV) (u : Int64) (a0 : Nat) (x1 : Int32) (x2 : Int32) (x3 : Int32) (r0 : Int32) (v1 : gV) (hk0 : kd a0 = 3) (hs : sX3_resolveDescription n v a0 x1 x2 x3 = some (r0, v1)) : Met l yX3_resolveDescription wsX3_resolveDescription ({ frames := 1, cells := 0, slots := 0, locals := 24 } : Room) (gPc D cy ad tL z0 v u [.ref (ad a0), .int x1, .int x2, .int x3]) (gQi D cy ad tL z0 v1 u r0) 0 0 (gA z0) := by
  refine Met.ofW (cc := cX3_resolveDescription) (maxL := 6) (ret := (some .int)) (by decide) rfl ?_
  intro p e s m args below meth c s₁ B hml hv
  obtain ⟨rfl, hB0⟩ := hv
  have hP : va_P D vwCl (gW cy ad v u) s.heap := hB0.1
  have hK : gK D cy tL z0 s s.heap := hB0.2
  have hx := B.exec
  have hb := B.bytes
  have hr := B.returns
  have hts := atoms_spec (ws := wsX3_resolveDescription) B.pre
  have hown : s.vm.findClass RX3 = some m.cls := findClass_of_methodNamed B.named
  have hlocks := B.notSynchronized
  have hS : va_S (gA z0) s.heap s.heap [] := va_S.rf
  have hl := lv_entry ([.ref (ad a0), .int x1, .int x2, .int x3]) (n := 6) (Nat.le_of_ble_eq_true rfl)
  rw [lg_entry_eq]
  generalize (lg_sl ([.ref (ad a0), .int x1, .int x2, .int x3]) ++ List.replicate (6 - (lg_sl ([.ref (ad a0), .int x1, .int x2, .int x3])).length) Slot.unset).toArray = ls at hl ⊢
  have hl : lv_has ls 6 [(0, .ref (ad a0)), (1, .int x1), (2, .int x2), (3, .int x3)] := hl
  have iX3 := (show ∀ w ∈ u_ws RX3 TX3 9, w ∈ wsX3_resolveDescription by decide +kernel)
  have f21 := hts (.fieldLink RX3 21 "AdventureParser$State" "command" "LAdventureParser$Command;") (by decide +kernel)
  have iX1 := (show ∀ w ∈ u_ws RX1 TX1 8, w ∈ wsX3_resolveDescription by decide +kernel)
  have f148 := hts (.fieldLink RX3 148 "AdventureParser$Command" "chosen" "[I") (by decide +kernel)
  have f12 := hts (.fieldLink RX3 12 "AdventureParser$State" "world" "LAdventureParser$World;") (by decide +kernel)
  have f58 := hts (.fieldLink RX3 58 "AdventureParser$Command" "nouns" "[I") (by decide +kernel)
  have f62 := hts (.fieldLink RX3 62 "AdventureParser$Command" "adjectives" "[I") (by decide +kernel)
  have f29 := hts (.fieldLink RX3 29 "AdventureParser$State" "questionSlot" "I") (by decide +kernel)
  have f51 := hts (.fieldLink RX3 51 "AdventureParser$State" "candidates" "I") (by decide +kernel)
  clear hB0
  unfold sX3_resolveDescription at hs
  refine lv_aload_n hx hb dX3_resolveDescription_0 rfl (lv_at hl 0 rfl) ?_
  refine va_get (D := D) (ci := 3) (v := .ref (ad (a0 + 5))) (C := RX3) (T := TX3) (N := 9) hx hb hts iX3 hown hK.1 hP a0 (gW_3 hk0) rfl 1 (by decide) f21 (fun _ h9 => h9) rfl dX3_resolveDescription_1 ?_
  refine lv_iload_n hx hb dX3_resolveDescription_4 rfl (lv_at hl 1 rfl) ?_
  refine g_bind hs (fun q_1 hq_1 hs => ?_)
  refine gCV_i (As := [.int x1]) (rest := []) ⟨hx, hb, hml, hown, hts⟩ (cX1_hasSlot_c l D cy ad tL z0 hI v u (a0 + 5) x1 q_1 (kd_3_5 hk0) hq_1) (cwV 1 hts gX3_resolveDescription_X1_hasSlot rfl rfl rfl (by decide +kernel) ⟨Nat.le_of_ble_eq_true rfl, Nat.le_of_ble_eq_true rfl⟩) hK hP hS (va_recv hK.1 hP (ci := 1) (q0 := a0 + 5) rfl (gW_1 (kd_3_5 hk0))) hl.1 rfl rfl (Nat.le_of_ble_eq_true rfl) dX3_resolveDescription_5 ⟨Nat.zero_le _, Nat.zero_le _⟩ (fun H locs hP hS => ?_)
  refine lv_if_ne (tgt := 14) hx hb dX3_resolveDescription_8 (by decide) (fun hc => ?_) (fun hc => ?_)
  · have hs := g_f hs hc
    refine lv_aload_n hx hb dX3_resolveDescription_14 rfl (lv_at hl 0 rfl) ?_
    refine va_get (D := D) (ci := 3) (v := .ref (ad (a0 + 5))) (C := RX3) (T := TX3) (N := 9) hx hb hts iX3 hown hK.1 hP a0 (gW_3 hk0) rfl 1 (by decide) f21 (fun _ h9 => h9) rfl dX3_resolveDescription_15 ?_
    refine va_get (D := D) (ci := 1) (v := .ref (ad ((a0 + 5) + 3))) (C := RX1) (T := TX1) (N := 8) hx hb hts iX1 hown hK.1 hP (a0 + 5) (gW_1 (kd_3_5 hk0)) rfl 2 (by decide) f148 (fun _ h9 => h9) rfl dX3_resolveDescription_18 ?_
    refine lv_iload_n hx hb dX3_resolveDescription_21 rfl (lv_at hl 1 rfl) ?_
    refine g_chk hs (fun hc hs => ?_)
    refine va_iald hx hb hK.1 hP ((a0 + 5) + 3) 0 (gW_11 (kd_1_3 (kd_3_5 hk0))) rfl hc dX3_resolveDescription_22 ?_
    refine lv_if_eq (tgt := 36) hx hb dX3_resolveDescription_23 (by decide) (fun hc => ?_) (fun hc => ?_)
    · have hs := g_t hs hc
      refine lv_aload_n hx hb dX3_resolveDescription_36 rfl (lv_at hl 0 rfl) ?_
      refine va_get (D := D) (ci := 3) (v := .ref (ad (a0 + 1))) (C := RX3) (T := TX3) (N := 9) hx hb hts iX3 hown hK.1 hP a0 (gW_3 hk0) rfl 0 (by decide) f12 (fun _ h9 => h9) rfl dX3_resolveDescription_37 ?_
      refine lv_aload_n hx hb dX3_resolveDescription_40 rfl (lv_at hl 0 rfl) ?_
      refine va_get (D := D) (ci := 3) (v := .ref (ad (a0 + 5))) (C := RX3) (T := TX3) (N := 9) hx hb hts iX3 hown hK.1 hP a0 (gW_3 hk0) rfl 1 (by decide) f21 (fun _ h9 => h9) rfl dX3_resolveDescription_41 ?_
      refine va_get (D := D) (ci := 1) (v := .ref (ad ((a0 + 5) + 1))) (C := RX1) (T := TX1) (N := 8) hx hb hts iX1 hown hK.1 hP (a0 + 5) (gW_1 (kd_3_5 hk0)) rfl 0 (by decide) f58 (fun _ h9 => h9) rfl dX3_resolveDescription_44 ?_
      refine lv_iload_n hx hb dX3_resolveDescription_47 rfl (lv_at hl 1 rfl) ?_
      refine g_chk hs (fun hc hs => ?_)
      refine va_iald hx hb hK.1 hP ((a0 + 5) + 1) 0 (gW_11 (kd_1_1 (kd_3_5 hk0))) rfl hc dX3_resolveDescription_48 ?_
      refine lv_aload_n hx hb dX3_resolveDescription_49 rfl (lv_at hl 0 rfl) ?_
      refine va_get (D := D) (ci := 3) (v := .ref (ad (a0 + 5))) (C := RX3) (T := TX3) (N := 9) hx hb hts iX3 hown hK.1 hP a0 (gW_3 hk0) rfl 1 (by decide) f21 (fun _ h9 => h9) rfl dX3_resolveDescription_50 ?_
      refine va_get (D := D) (ci := 1) (v := .ref (ad ((a0 + 5) + 2))) (C := RX1) (T := TX1) (N := 8) hx hb hts iX1 hown hK.1 hP (a0 + 5) (gW_1 (kd_3_5 hk0)) rfl 1 (by decide) f62 (fun _ h9 => h9) rfl dX3_resolveDescription_53 ?_
      refine lv_iload_n hx hb dX3_resolveDescription_56 rfl (lv_at hl 1 rfl) ?_
      refine g_chk hs (fun hc hs => ?_)
      refine va_iald hx hb hK.1 hP ((a0 + 5) + 2) 0 (gW_11 (kd_1_2 (kd_3_5 hk0))) rfl hc dX3_resolveDescription_57 ?_
      refine g_bind hs (fun q_2 hq_2 hs => ?_)
      refine gCV_i (As := [.int (v ((a0 + 5) + 1) x1.toNatClampNeg), .int (v ((a0 + 5) + 2) x1.toNatClampNeg)]) (rest := []) ⟨hx, hb, hml, hown, hts⟩ (cX4_fittingSet_c l D cy ad tL z0 hI n v u (a0 + 1) (v ((a0 + 5) + 1) x1.toNatClampNeg) (v ((a0 + 5) + 2) x1.toNatClampNeg) q_2 (kd_3_1 hk0) hq_2) (cwV 2 hts gX3_resolveDescription_X4_fittingSet rfl rfl rfl (by decide +kernel) ⟨Nat.le_of_ble_eq_true rfl, Nat.le_of_ble_eq_true rfl⟩) hK hP hS (va_recv hK.1 hP (ci := 4) (q0 := a0 + 1) rfl (gW_4 (kd_3_1 hk0))) hl.1 rfl rfl (Nat.le_of_ble_eq_true rfl) dX3_resolveDescription_58 ⟨Nat.zero_le _, Nat.zero_le _⟩ (fun H locs hP hS => ?_)
      refine lv_istore (lv' := [(4, .int q_2), (0, .ref (ad a0)), (1, .int x1), (2, .int x2), (3, .int x3)]) hx hb dX3_resolveDescription_61 hl (by decide) rfl (fun ls hl => ?_)
      refine lv_iload hx hb dX3_resolveDescription_63 (lv_at hl 0 rfl) ?_
      refine lv_iload_n hx hb dX3_resolveDescription_65 rfl (lv_at hl 3 rfl) ?_
      refine lv_iand hx hb dX3_resolveDescription_66 ?_
      refine lv_if_ne (tgt := 73) hx hb dX3_resolveDescription_67 (by decide) (fun hc => ?_) (fun hc => ?_)
      · have hs := g_f hs hc
        refine lv_iload hx hb dX3_resolveDescription_73 (lv_at hl 0 rfl) ?_
        refine lv_iload_n hx hb dX3_resolveDescription_75 rfl (lv_at hl 4 rfl) ?_
        refine lv_iand hx hb dX3_resolveDescription_76 ?_
        refine lv_istore (lv' := [(5, .int (q_2 &&& x3)), (4, .int q_2), (0, .ref (ad a0)), (1, .int x1), (2, .int x2), (3, .int x3)]) hx hb dX3_resolveDescription_77 hl (by decide) rfl (fun ls hl => ?_)
        refine lv_iload hx hb dX3_resolveDescription_79 (lv_at hl 0 rfl) ?_
        refine g_bind hs (fun q_3 hq_3 hs => ?_)
        refine gCS_i (As := [.int (q_2 &&& x3)]) (rest := []) ⟨hx, hb, hml, hown, hts⟩ (cJ6_bitCount_0f7a4_c l D cy ad tL z0 hI v u (q_2 &&& x3) q_3 hq_3) (va_cwS 1 hts gX3_resolveDescription_J6_bitCount_0f7a4 rfl rfl rfl (by decide +kernel) ⟨Nat.le_of_ble_eq_true rfl, Nat.le_of_ble_eq_true rfl⟩) hK hP hS hl.1 rfl rfl (Nat.le_of_ble_eq_true rfl) dX3_resolveDescription_81 ⟨Nat.zero_le _, Nat.zero_le _⟩ (fun H locs hP hS => ?_)
        refine lv_iconst (v := 1) hx hb dX3_resolveDescription_84 (by decide) ?_
        refine lv_icmp_le (tgt := 101) hx hb dX3_resolveDescription_85 (by decide) (fun hc => ?_) (fun hc => ?_)
        · have hs := g_t hs hc
          refine lv_iload hx hb dX3_resolveDescription_101 (lv_at hl 0 rfl) ?_
          refine g_bind hs (fun q_4 hq_4 hs => ?_)
          refine gCS_i (As := [.int (q_2 &&& x3)]) (rest := []) ⟨hx, hb, hml, hown, hts⟩ (cX3_orNothingSuitable_c l D cy ad tL z0 hI v u (q_2 &&& x3) q_4 hq_4) (va_cwS 1 hts gX3_resolveDescription_X3_orNothingSuitable rfl rfl rfl (by decide +kernel) ⟨Nat.le_of_ble_eq_true rfl, Nat.le_of_ble_eq_true rfl⟩) hK hP hS hl.1 rfl rfl (Nat.le_of_ble_eq_true rfl) dX3_resolveDescription_103 ⟨Nat.zero_le _, Nat.zero_le _⟩ (fun H locs hP hS => ?_)
          exact gRet_i hx hb hr hlocks hK hP hS (g_some2 hs) dX3_resolveDescription_106
        · have hs := g_f hs hc
          refine lv_aload_n hx hb dX3_resolveDescription_88 rfl (lv_at hl 2 rfl) ?_
          refine lv_iload_n hx hb dX3_resolveDescription_89 rfl (lv_at hl 3 rfl) ?_
          refine va_put (D := D) (ci := 3) (v := .int x1) (ty := .int) (C := RX3) (T := TX3) (N := 9) hx hb hts iX3 tyX3 tyX3_ok nmX3 hown hK.1 hP (gD hI) hS a0 (gW_3 hk0) rfl 8 (by decide) f29 (fun _ h9 => h9) rfl (by decide +kernel) rfl rfl (Nat.le_of_ble_eq_true rfl) dX3_resolveDescription_90 (fun H locs hP _ hS => ?_)
          refine g_let hs (fun v_5 ev_5 hs => ?_)
          have hP : va_P D vwCl (gW cy ad v_5 u) H := gPset ((gS_3_8 hk0 x1).trans (congrArg (fun z => gW cy ad z u) ev_5.symm)) hP
          refine lv_aload_n hx hb dX3_resolveDescription_93 rfl (lv_at hl 2 rfl) ?_
          refine lv_iload hx hb dX3_resolveDescription_94 (lv_at hl 0 rfl) ?_
          refine va_put (D := D) (ci := 3) (v := .int (q_2 &&& x3)) (ty := .int) (C := RX3) (T := TX3) (N := 9) hx hb hts iX3 tyX3 tyX3_ok nmX3 hown hK.1 hP (gD hI) hS a0 (gW_3 hk0) rfl 7 (by decide) f51 (fun _ h9 => h9) rfl (by decide +kernel) rfl rfl (Nat.le_of_ble_eq_true rfl) dX3_resolveDescription_96 (fun H locs hP _ hS => ?_)
          refine g_let hs (fun v_6 ev_6 hs => ?_)
          have hP : va_P D vwCl (gW cy ad v_6 u) H := gPset ((gS_3_7 hk0 (q_2 &&& x3)).trans (congrArg (fun z => gW cy ad z u) ev_6.symm)) hP
          refine lv_iconst (v := (-1)) hx hb dX3_resolveDescription_99 (by decide) ?_
          exact gRet_i hx hb hr hlocks hK hP hS (g_some2 hs) dX3_resolveDescription_100
      · have hs := g_t hs hc
        refine lv_bipush (v := (-2)) hx hb dX3_resolveDescription_70 (by decide) ?_
        exact gRet_i hx hb hr hlocks hK hP hS (g_some2 hs) dX3_resolveDescription_72
    · have hs := g_f hs hc
      refine lv_aload_n hx hb dX3_resolveDescription_26 rfl (lv_at hl 0 rfl) ?_
      refine va_get (D := D) (ci := 3) (v := .ref (ad (a0 + 5))) (C := RX3) (T := TX3) (N := 9) hx hb hts iX3 hown hK.1 hP a0 (gW_3 hk0) rfl 1 (by decide) f21 (fun _ h9 => h9) rfl dX3_resolveDescription_27 ?_
      refine va_get (D := D) (ci := 1) (v := .ref (ad ((a0 + 5) + 3))) (C := RX1) (T := TX1) (N := 8) hx hb hts iX1 hown hK.1 hP (a0 + 5) (gW_1 (kd_3_5 hk0)) rfl 2 (by decide) f148 (fun _ h9 => h9) rfl dX3_resolveDescription_30 ?_
      refine lv_iload_n hx hb dX3_resolveDescription_33 rfl (lv_at hl 1 rfl) ?_
      refine g_chk hs (fun hc hs => ?_)
      refine va_iald hx hb hK.1 hP ((a0 + 5) + 3) 0 (gW_11 (kd_1_3 (kd_3_5 hk0))) rfl hc dX3_resolveDescription_34 ?_
      exact gRet_i hx hb hr hlocks hK hP hS (g_some2 hs) dX3_resolveDescription_35
  · have hs := g_t hs hc
    refine lv_bipush (v := (-2)) hx hb dX3_resolveDescription_11 (by decide) ?_
    exact gRet_i hx hb hr hlocks hK hP hS (g_some2 hs) dX3_resolveDescription_13
set_option maxHeartbeats 4000000 in
set_option maxRecDepth 100000 in
theorem cX3_resolveTarget_c (l : Launch) (D : va_G) (cy : Nat → ClassId) (ad : Nat → Nat) (tL z0 : Nat) (hI : gI z0 ad) (n : Nat) (v : gV) (u : Int64) (a0 : Nat) (x1 : Int32) (x2 : Int32) (r0 : Int32) (v1 : gV) (hk0 : kd a0 = 3) (hs : sX3_resolveTarget n v a0 x1 x2 = some (r0, v1)) : Met l yX3_resolveTarget wsX3_resolveTarget ({ frames := 2, cells := 0, slots := 0, locals := 49 } : Room) (gPc D cy ad tL z0 v u [.ref (ad a0), .int x1, .int x2]) (gQi D cy ad tL z0 v1 u r0) 0 0 (gA z0) := by
  refine Met.ofW (cc := cX3_resolveTarget) (maxL := 3) (ret := (some .int)) (by decide) rfl ?_
  intro p e s m args below meth c s₁ B hml hv
  obtain ⟨rfl, hB0⟩ := hv
  have hP : va_P D vwCl (gW cy ad v u) s.heap := hB0.1
  have hK : gK D cy tL z0 s s.heap := hB0.2
  have hx := B.exec
  have hb := B.bytes
  have hr := B.returns
  have hts := atoms_spec (ws := wsX3_resolveTarget) B.pre
  have hown : s.vm.findClass RX3 = some m.cls := findClass_of_methodNamed B.named
  have hlocks := B.notSynchronized
  have hS : va_S (gA z0) s.heap s.heap [] := va_S.rf
  have hl := lv_entry ([.ref (ad a0), .int x1, .int x2]) (n := 3) (Nat.le_of_ble_eq_true rfl)
  rw [lg_entry_eq]
  generalize (lg_sl ([.ref (ad a0), .int x1, .int x2]) ++ List.replicate (3 - (lg_sl ([.ref (ad a0), .int x1, .int x2])).length) Slot.unset).toArray = ls at hl ⊢
  have hl : lv_has ls 3 [(0, .ref (ad a0)), (1, .int x1), (2, .int x2)] := hl
  have iX3 := (show ∀ w ∈ u_ws RX3 TX3 9, w ∈ wsX3_resolveTarget by decide +kernel)
  have f21 := hts (.fieldLink RX3 21 "AdventureParser$State" "command" "LAdventureParser$Command;") (by decide +kernel)
  have iX1 := (show ∀ w ∈ u_ws RX1 TX1 8, w ∈ wsX3_resolveTarget by decide +kernel)
  have f118 := hts (.fieldLink RX3 118 "AdventureParser$Command" "targetIsSingle" "Z") (by decide +kernel)
  clear hB0
  unfold sX3_resolveTarget at hs
  refine lv_aload_n hx hb dX3_resolveTarget_0 rfl (lv_at hl 0 rfl) ?_
  refine va_get (D := D) (ci := 3) (v := .ref (ad (a0 + 5))) (C := RX3) (T := TX3) (N := 9) hx hb hts iX3 hown hK.1 hP a0 (gW_3 hk0) rfl 1 (by decide) f21 (fun _ h9 => h9) rfl dX3_resolveTarget_1 ?_
  refine va_get (D := D) (ci := 1) (v := .int (v (a0 + 5) 5)) (C := RX1) (T := TX1) (N := 8) hx hb hts iX1 hown hK.1 hP (a0 + 5) (gW_1 (kd_3_5 hk0)) rfl 5 (by decide) f118 (fun _ h9 => h9) rfl dX3_resolveTarget_4 ?_
  refine lv_if_eq (tgt := 19) hx hb dX3_resolveTarget_7 (by decide) (fun hc => ?_) (fun hc => ?_)
  · have hs := g_t hs hc
    refine lv_aload_n hx hb dX3_resolveTarget_19 rfl (lv_at hl 0 rfl) ?_
    refine lv_iconst (v := 0) hx hb dX3_resolveTarget_20 (by decide) ?_
    refine lv_iload_n hx hb dX3_resolveTarget_21 rfl (lv_at hl 1 rfl) ?_
    refine lv_iload_n hx hb dX3_resolveTarget_22 rfl (lv_at hl 2 rfl) ?_
    refine g_bind hs (fun q_1 hq_1 hs => ?_)
    refine gCV_i (As := [.int 0, .int x1, .int x2]) (rest := []) ⟨hx, hb, hml, hown, hts⟩ (cX3_resolveDescription_c l D cy ad tL z0 hI n v u a0 0 x1 x2 q_1.1 q_1.2 hk0 hq_1) (cwV 3 hts gX3_resolveTarget_X3_resolveDescription rfl rfl rfl (by decide +kernel) ⟨Nat.le_of_ble_eq_true rfl, Nat.le_of_ble_eq_true rfl⟩) hK hP hS (va_recv hK.1 hP (ci := 3) (q0 := a0) rfl (gW_3 hk0)) hl.1 rfl rfl (Nat.le_of_ble_eq_true rfl) dX3_resolveTarget_23 ⟨Nat.zero_le _, Nat.zero_le _⟩ (fun H locs hP hS => ?_)
    exact gRet_i hx hb hr hlocks hK hP hS (g_some2 hs) dX3_resolveTarget_26
  · have hs := g_f hs hc
    refine lv_aload_n hx hb dX3_resolveTarget_10 rfl (lv_at hl 0 rfl) ?_
    refine lv_iload_n hx hb dX3_resolveTarget_11 rfl (lv_at hl 1 rfl) ?_
    refine lv_iload_n hx hb dX3_resolveTarget_12 rfl (lv_at hl 2 rfl) ?_
    refine g_bind hs (fun q_2 hq_2 hs => ?_)
    refine gCV_i (As := [.int x1, .int x2]) (rest := []) ⟨hx, hb, hml, hown, hts⟩ (cX3_resolveSingle_c l D cy ad tL z0 hI v u a0 x1 x2 q_2 hk0 hq_2) (cwV 2 hts gX3_resolveTarget_X3_resolveSingle rfl rfl rfl (by decide +kernel) ⟨Nat.le_of_ble_eq_true rfl, Nat.le_of_ble_eq_true rfl⟩) hK hP hS (va_recv hK.1 hP (ci := 3) (q0 := a0) rfl (gW_3 hk0)) hl.1 rfl rfl (Nat.le_of_ble_eq_true rfl) dX3_resolveTarget_13 ⟨Nat.zero_le _, Nat.zero_le _⟩ (fun H locs hP hS => ?_)
    refine lv_goto (tgt := 26) hx hb dX3_resolveTarget_16 (by decide) ?_
    exact gRet_i hx hb hr hlocks hK hP hS (g_some2 hs) dX3_resolveTarget_26
set_option maxHeartbeats 4000000 in
set_option maxRecDepth 100000 in
theorem cX3_listedSet_c (l : Launch) (D : va_G) (cy : Nat → ClassId) (ad : Nat → Nat) (tL z0 : Nat) (hI : gI z0 ad) (n : Nat) (v : gV) (u : Int64) (a0 : Nat) (r0 : Int32) (hk0 : kd a0 = 3) (hs : sX3_listedSet n v a0 = some r0) : Met l yX3_listedSet wsX3_listedSet ({ frames := 1, cells := 0, slots := 0, locals := 24 } : Room) (gPc D cy ad tL z0 v u [.ref (ad a0)]) (gQi D cy ad tL z0 v u r0) 0 0 (gA z0) := by
  refine Met.ofW (cc := cX3_listedSet) (maxL := 3) (ret := (some .int)) (by decide) rfl ?_
  intro p e s m args below meth c s₁ B hml hv
  obtain ⟨rfl, hB0⟩ := hv
  have hP : va_P D vwCl (gW cy ad v u) s.heap := hB0.1
  have hK : gK D cy tL z0 s s.heap := hB0.2
  have hx := B.exec
  have hb := B.bytes
  have hr := B.returns
  have hts := atoms_spec (ws := wsX3_listedSet) B.pre
  have hown : s.vm.findClass RX3 = some m.cls := findClass_of_methodNamed B.named
  have hlocks := B.notSynchronized
  have hS : va_S (gA z0) s.heap s.heap [] := va_S.rf
  have hl := lv_entry ([.ref (ad a0)]) (n := 3) (Nat.le_of_ble_eq_true rfl)
  rw [lg_entry_eq]
  generalize (lg_sl ([.ref (ad a0)]) ++ List.replicate (3 - (lg_sl ([.ref (ad a0)])).length) Slot.unset).toArray = ls at hl ⊢
  have hl : lv_has ls 3 [(0, .ref (ad a0))] := hl
  have iX3 := (show ∀ w ∈ u_ws RX3 TX3 9, w ∈ wsX3_listedSet by decide +kernel)
  have f21 := hts (.fieldLink RX3 21 "AdventureParser$State" "command" "LAdventureParser$Command;") (by decide +kernel)
  have iX1 := (show ∀ w ∈ u_ws RX1 TX1 8, w ∈ wsX3_listedSet by decide +kernel)
  have f141 := hts (.fieldLink RX3 141 "AdventureParser$Command" "listed" "I") (by decide +kernel)
  have f12 := hts (.fieldLink RX3 12 "AdventureParser$State" "world" "LAdventureParser$World;") (by decide +kernel)
  have f58 := hts (.fieldLink RX3 58 "AdventureParser$Command" "nouns" "[I") (by decide +kernel)
  have f62 := hts (.fieldLink RX3 62 "AdventureParser$Command" "adjectives" "[I") (by decide +kernel)
  clear hB0
  have hL_4 : ∀ (k : Nat), ∀ (w1 : Int32) (w2 : Int32) (H : Heap) (locs : List Loc) (ls : Array Slot), va_P D vwCl (gW cy ad v u) H → va_S (gA z0) s.heap H locs → lv_has ls 3 [(0, .ref (ad a0)), (1, .int w1), (2, .int w2)] → sX3_listedSet_4 n a0 k v w1 w2 = some r0 → W p l e (headSpec wsX3_listedSet ({ frames := 1, cells := 0, slots := 0, locals := 24 } : Room)).room s m ([.ref (ad a0)] : List Value).toArray below meth c H locs 0 0 (MQ below (gQi D cy ad tL z0 v u r0) ([.ref (ad a0)] : List Value).toArray s 0 0 (gA z0)) (F0 m 4 ls []) := by
    intro k
    induction k with
    | zero =>
      intro w1 w2 H locs ls hP hS hl hs
      exact g_none hs
    | succ k ih =>
      intro w1 w2 H locs ls hP hS hl hs
      rw [sX3_listedSet_4] at hs
      refine lv_iload_n hx hb dX3_listedSet_4 rfl (lv_at hl 2 rfl) ?_
      refine lv_aload_n hx hb dX3_listedSet_5 rfl (lv_at hl 0 rfl) ?_
      refine va_get (D := D) (ci := 3) (v := .ref (ad (a0 + 5))) (C := RX3) (T := TX3) (N := 9) hx hb hts iX3 hown hK.1 hP a0 (gW_3 hk0) rfl 1 (by decide) f21 (fun _ h9 => h9) rfl dX3_listedSet_6 ?_
      refine va_get (D := D) (ci := 1) (v := .int (v (a0 + 5) 6)) (C := RX1) (T := TX1) (N := 8) hx hb hts iX1 hown hK.1 hP (a0 + 5) (gW_1 (kd_3_5 hk0)) rfl 6 (by decide) f141 (fun _ h9 => h9) rfl dX3_listedSet_9 ?_
      refine lv_icmp_gt (tgt := 55) hx hb dX3_listedSet_12 (by decide) (fun hc => ?_) (fun hc => ?_)
      · have hs := g_t hs hc
        refine lv_iload_n hx hb dX3_listedSet_55 rfl (lv_at hl 1 rfl) ?_
        exact gRet_i hx hb hr hlocks hK hP hS ⟨g_some hs, rfl⟩ dX3_listedSet_56
      · have hs := g_f hs hc
        refine lv_iload_n hx hb dX3_listedSet_15 rfl (lv_at hl 2 rfl) ?_
        refine lv_bipush (v := 8) hx hb dX3_listedSet_16 (by decide) ?_
        refine lv_icmp_ge (tgt := 55) hx hb dX3_listedSet_18 (by decide) (fun hc => ?_) (fun hc => ?_)
        · have hs := g_t hs hc
          refine lv_iload_n hx hb dX3_listedSet_55 rfl (lv_at hl 1 rfl) ?_
          exact gRet_i hx hb hr hlocks hK hP hS ⟨g_some hs, rfl⟩ dX3_listedSet_56
        · have hs := g_f hs hc
          refine lv_iload_n hx hb dX3_listedSet_21 rfl (lv_at hl 1 rfl) ?_
          refine lv_aload_n hx hb dX3_listedSet_22 rfl (lv_at hl 0 rfl) ?_
          refine va_get (D := D) (ci := 3) (v := .ref (ad (a0 + 1))) (C := RX3) (T := TX3) (N := 9) hx hb hts iX3 hown hK.1 hP a0 (gW_3 hk0) rfl 0 (by decide) f12 (fun _ h9 => h9) rfl dX3_listedSet_23 ?_
          refine lv_aload_n hx hb dX3_listedSet_26 rfl (lv_at hl 0 rfl) ?_
          refine va_get (D := D) (ci := 3) (v := .ref (ad (a0 + 5))) (C := RX3) (T := TX3) (N := 9) hx hb hts iX3 hown hK.1 hP a0 (gW_3 hk0) rfl 1 (by decide) f21 (fun _ h9 => h9) rfl dX3_listedSet_27 ?_
          refine va_get (D := D) (ci := 1) (v := .ref (ad ((a0 + 5) + 1))) (C := RX1) (T := TX1) (N := 8) hx hb hts iX1 hown hK.1 hP (a0 + 5) (gW_1 (kd_3_5 hk0)) rfl 0 (by decide) f58 (fun _ h9 => h9) rfl dX3_listedSet_30 ?_
          refine lv_iload_n hx hb dX3_listedSet_33 rfl (lv_at hl 2 rfl) ?_
          refine g_chk hs (fun hc hs => ?_)
          refine va_iald hx hb hK.1 hP ((a0 + 5) + 1) 0 (gW_11 (kd_1_1 (kd_3_5 hk0))) rfl hc dX3_listedSet_34 ?_
          refine lv_aload_n hx hb dX3_listedSet_35 rfl (lv_at hl 0 rfl) ?_
          refine va_get (D := D) (ci := 3) (v := .ref (ad (a0 + 5))) (C := RX3) (T := TX3) (N := 9) hx hb hts iX3 hown hK.1 hP a0 (gW_3 hk0) rfl 1 (by decide) f21 (fun _ h9 => h9) rfl dX3_listedSet_36 ?_
          refine va_get (D := D) (ci := 1) (v := .ref (ad ((a0 + 5) + 2))) (C := RX1) (T := TX1) (N := 8) hx hb hts iX1 hown hK.1 hP (a0 + 5) (gW_1 (kd_3_5 hk0)) rfl 1 (by decide) f62 (fun _ h9 => h9) rfl dX3_listedSet_39 ?_
          refine lv_iload_n hx hb dX3_listedSet_42 rfl (lv_at hl 2 rfl) ?_
          refine g_chk hs (fun hc hs => ?_)
          refine va_iald hx hb hK.1 hP ((a0 + 5) + 2) 0 (gW_11 (kd_1_2 (kd_3_5 hk0))) rfl hc dX3_listedSet_43 ?_
          refine g_bind hs (fun q_1 hq_1 hs => ?_)
          refine gCV_i (As := [.int (v ((a0 + 5) + 1) w2.toNatClampNeg), .int (v ((a0 + 5) + 2) w2.toNatClampNeg)]) (rest := [.int w1]) ⟨hx, hb, hml, hown, hts⟩ (cX4_fittingSet_c l D cy ad tL z0 hI n v u (a0 + 1) (v ((a0 + 5) + 1) w2.toNatClampNeg) (v ((a0 + 5) + 2) w2.toNatClampNeg) q_1 (kd_3_1 hk0) hq_1) (cwV 2 hts gX3_listedSet_X4_fittingSet rfl rfl rfl (by decide +kernel) ⟨Nat.le_of_ble_eq_true rfl, Nat.le_of_ble_eq_true rfl⟩) hK hP hS (va_recv hK.1 hP (ci := 4) (q0 := a0 + 1) rfl (gW_4 (kd_3_1 hk0))) hl.1 rfl rfl (Nat.le_of_ble_eq_true rfl) dX3_listedSet_44 ⟨Nat.zero_le _, Nat.zero_le _⟩ (fun H locs hP hS => ?_)
          refine lv_ior hx hb dX3_listedSet_47 ?_
          refine lv_istore_n (lv' := [(1, .int (w1 ||| q_1)), (0, .ref (ad a0)), (2, .int w2)]) hx hb dX3_listedSet_48 rfl hl (by decide) rfl (fun ls hl => ?_)
          refine lv_iinc (v := w2 + 1) (lv' := [(2, .int (w2 + 1)), (1, .int (w1 ||| q_1)), (0, .ref (ad a0))]) hx hb dX3_listedSet_49 hl (k := 2) rfl rfl (by decide) rfl (fun ls hl => ?_)
          refine lv_goto (tgt := 4) hx hb dX3_listedSet_52 (by decide) ?_
          exact ih (w1 ||| q_1) (w2 + 1) _ _ _ hP hS (lv_sub hl [2, 1, 0] rfl) hs
  unfold sX3_listedSet at hs
  refine lv_iconst (v := 0) hx hb dX3_listedSet_0 (by decide) ?_
  refine lv_istore_n (lv' := [(1, .int 0), (0, .ref (ad a0))]) hx hb dX3_listedSet_1 rfl hl (by decide) rfl (fun ls hl => ?_)
  refine lv_iconst (v := 1) hx hb dX3_listedSet_2 (by decide) ?_
  refine lv_istore_n (lv' := [(2, .int 1), (1, .int 0), (0, .ref (ad a0))]) hx hb dX3_listedSet_3 rfl hl (by decide) rfl (fun ls hl => ?_)
  exact hL_4 n 0 1 _ _ _ hP hS (lv_sub hl [2, 1, 0] rfl) hs
set_option maxHeartbeats 4000000 in
set_option maxRecDepth 100000 in
theorem cX3_resolveList_c (l : Launch) (D : va_G) (cy : Nat → ClassId) (ad : Nat → Nat) (tL z0 : Nat) (hI : gI z0 ad) (n : Nat) (v : gV) (u : Int64) (a0 : Nat) (x1 : Int32) (x2 : Int32) (r0 : Int32) (v1 : gV) (hk0 : kd a0 = 3) (hs : sX3_resolveList n v a0 x1 x2 = some (r0, v1)) : Met l yX3_resolveList wsX3_resolveList ({ frames := 2, cells := 0, slots := 0, locals := 49 } : Room) (gPc D cy ad tL z0 v u [.ref (ad a0), .int x1, .int x2]) (gQi D cy ad tL z0 v1 u r0) 0 0 (gA z0) := by
  refine Met.ofW (cc := cX3_resolveList) (maxL := 6) (ret := (some .int)) (by decide) rfl ?_
  intro p e s m args below meth c s₁ B hml hv
  obtain ⟨rfl, hB0⟩ := hv
  have hP : va_P D vwCl (gW cy ad v u) s.heap := hB0.1
  have hK : gK D cy tL z0 s s.heap := hB0.2
  have hx := B.exec
  have hb := B.bytes
  have hr := B.returns
  have hts := atoms_spec (ws := wsX3_resolveList) B.pre
  have hown : s.vm.findClass RX3 = some m.cls := findClass_of_methodNamed B.named
  have hlocks := B.notSynchronized
  have hS : va_S (gA z0) s.heap s.heap [] := va_S.rf
  have hl := lv_entry ([.ref (ad a0), .int x1, .int x2]) (n := 6) (Nat.le_of_ble_eq_true rfl)
  rw [lg_entry_eq]
  generalize (lg_sl ([.ref (ad a0), .int x1, .int x2]) ++ List.replicate (6 - (lg_sl ([.ref (ad a0), .int x1, .int x2])).length) Slot.unset).toArray = ls at hl ⊢
  have hl : lv_has ls 6 [(0, .ref (ad a0)), (1, .int x1), (2, .int x2)] := hl
  have iX3 := (show ∀ w ∈ u_ws RX3 TX3 9, w ∈ wsX3_resolveList by decide +kernel)
  have f21 := hts (.fieldLink RX3 21 "AdventureParser$State" "command" "LAdventureParser$Command;") (by decide +kernel)
  have iX1 := (show ∀ w ∈ u_ws RX1 TX1 8, w ∈ wsX3_resolveList by decide +kernel)
  have f141 := hts (.fieldLink RX3 141 "AdventureParser$Command" "listed" "I") (by decide +kernel)
  clear hB0
  have hL_5 : ∀ (k : Nat), ∀ (v : gV) (w1 : Int32) (w2 : Int32) (w3 : Int32) (w4 : Int32) (H : Heap) (locs : List Loc) (ls : Array Slot), va_P D vwCl (gW cy ad v u) H → va_S (gA z0) s.heap H locs → lv_has ls 6 [(0, .ref (ad a0)), (1, .int w1), (2, .int w2), (3, .int w3), (4, .int w4)] → sX3_resolveList_5 n a0 k v w1 w2 w3 w4 = some (r0, v1) → W p l e (headSpec wsX3_resolveList ({ frames := 2, cells := 0, slots := 0, locals := 49 } : Room)).room s m ([.ref (ad a0), .int x1, .int x2] : List Value).toArray below meth c H locs 0 0 (MQ below (gQi D cy ad tL z0 v1 u r0) ([.ref (ad a0), .int x1, .int x2] : List Value).toArray s 0 0 (gA z0)) (F0 m 5 ls []) := by
    intro k
    induction k with
    | zero =>
      intro v w1 w2 w3 w4 H locs ls hP hS hl hs
      exact g_none hs
    | succ k ih =>
      intro v w1 w2 w3 w4 H locs ls hP hS hl hs
      rw [sX3_resolveList_5] at hs
      refine lv_iload hx hb dX3_resolveList_5 (lv_at hl 4 rfl) ?_
      refine lv_aload_n hx hb dX3_resolveList_7 rfl (lv_at hl 0 rfl) ?_
      refine va_get (D := D) (ci := 3) (v := .ref (ad (a0 + 5))) (C := RX3) (T := TX3) (N := 9) hx hb hts iX3 hown hK.1 hP a0 (gW_3 hk0) rfl 1 (by decide) f21 (fun _ h9 => h9) rfl dX3_resolveList_8 ?_
      refine va_get (D := D) (ci := 1) (v := .int (v (a0 + 5) 6)) (C := RX1) (T := TX1) (N := 8) hx hb hts iX1 hown hK.1 hP (a0 + 5) (gW_1 (kd_3_5 hk0)) rfl 6 (by decide) f141 (fun _ h9 => h9) rfl dX3_resolveList_11 ?_
      refine lv_icmp_gt (tgt := 53) hx hb dX3_resolveList_14 (by decide) (fun hc => ?_) (fun hc => ?_)
      · have hs := g_t hs hc
        refine lv_iload_n hx hb dX3_resolveList_53 rfl (lv_at hl 3 rfl) ?_
        exact gRet_i hx hb hr hlocks hK hP hS (g_some2 hs) dX3_resolveList_54
      · have hs := g_f hs hc
        refine lv_iload hx hb dX3_resolveList_17 (lv_at hl 4 rfl) ?_
        refine lv_bipush (v := 8) hx hb dX3_resolveList_19 (by decide) ?_
        refine lv_icmp_ge (tgt := 53) hx hb dX3_resolveList_21 (by decide) (fun hc => ?_) (fun hc => ?_)
        · have hs := g_t hs hc
          refine lv_iload_n hx hb dX3_resolveList_53 rfl (lv_at hl 3 rfl) ?_
          exact gRet_i hx hb hr hlocks hK hP hS (g_some2 hs) dX3_resolveList_54
        · have hs := g_f hs hc
          refine lv_aload_n hx hb dX3_resolveList_24 rfl (lv_at hl 0 rfl) ?_
          refine lv_iload hx hb dX3_resolveList_25 (lv_at hl 4 rfl) ?_
          refine lv_iload_n hx hb dX3_resolveList_27 rfl (lv_at hl 1 rfl) ?_
          refine lv_iload_n hx hb dX3_resolveList_28 rfl (lv_at hl 2 rfl) ?_
          refine g_bind hs (fun q_1 hq_1 hs => ?_)
          refine gCV_i (As := [.int w4, .int w1, .int w2]) (rest := []) ⟨hx, hb, hml, hown, hts⟩ (cX3_resolveDescription_c l D cy ad tL z0 hI n v u a0 w4 w1 w2 q_1.1 q_1.2 hk0 hq_1) (cwV 3 hts gX3_resolveList_X3_resolveDescription rfl rfl rfl (by decide +kernel) ⟨Nat.le_of_ble_eq_true rfl, Nat.le_of_ble_eq_true rfl⟩) hK hP hS (va_recv hK.1 hP (ci := 3) (q0 := a0) rfl (gW_3 hk0)) hl.1 rfl rfl (Nat.le_of_ble_eq_true rfl) dX3_resolveList_29 ⟨Nat.zero_le _, Nat.zero_le _⟩ (fun H locs hP hS => ?_)
          refine lv_istore (lv' := [(5, .int q_1.1), (0, .ref (ad a0)), (1, .int w1), (2, .int w2), (3, .int w3), (4, .int w4)]) hx hb dX3_resolveList_32 hl (by decide) rfl (fun ls hl => ?_)
          refine lv_iload hx hb dX3_resolveList_34 (lv_at hl 0 rfl) ?_
          refine lv_if_ge (tgt := 42) hx hb dX3_resolveList_36 (by decide) (fun hc => ?_) (fun hc => ?_)
          · have hs := g_t hs hc
            refine lv_iload_n hx hb dX3_resolveList_42 rfl (lv_at hl 4 rfl) ?_
            refine lv_iload hx hb dX3_resolveList_43 (lv_at hl 0 rfl) ?_
            refine lv_ior hx hb dX3_resolveList_45 ?_
            refine lv_istore_n (lv' := [(3, .int (w3 ||| q_1.1)), (5, .int q_1.1), (0, .ref (ad a0)), (1, .int w1), (2, .int w2), (4, .int w4)]) hx hb dX3_resolveList_46 rfl hl (by decide) rfl (fun ls hl => ?_)
            refine lv_iinc (v := w4 + 1) (lv' := [(4, .int (w4 + 1)), (3, .int (w3 ||| q_1.1)), (5, .int q_1.1), (0, .ref (ad a0)), (1, .int w1), (2, .int w2)]) hx hb dX3_resolveList_47 hl (k := 5) rfl rfl (by decide) rfl (fun ls hl => ?_)
            refine lv_goto (tgt := 5) hx hb dX3_resolveList_50 (by decide) ?_
            exact ih q_1.2 w1 w2 (w3 ||| q_1.1) (w4 + 1) _ _ _ hP hS (lv_sub hl [3, 4, 5, 1, 0] rfl) hs
          · have hs := g_f hs hc
            refine lv_iload hx hb dX3_resolveList_39 (lv_at hl 0 rfl) ?_
            exact gRet_i hx hb hr hlocks hK hP hS (g_some2 hs) dX3_resolveList_41
  unfold sX3_resolveList at hs
  refine lv_iconst (v := 0) hx hb dX3_resolveList_0 (by decide) ?_
  refine lv_istore_n (lv' := [(3, .int 0), (0, .ref (ad a0)), (1, .int x1), (2, .int x2)]) hx hb dX3_resolveList_1 rfl hl (by decide) rfl (fun ls hl => ?_)
  refine lv_iconst (v := 1) hx hb dX3_resolveList_2 (by decide) ?_
  refine lv_istore (lv' := [(4, .int 1), (3, .int 0), (0, .ref (ad a0)), (1, .int x1), (2, .int x2)]) hx hb dX3_resolveList_3 hl (by decide) rfl (fun ls hl => ?_)
  exact hL_5 n v x1 x2 0 1 _ _ _ hP hS (lv_sub hl [2, 3, 4, 1, 0] rfl) hs
set_option maxHeartbeats 4000000 in
set_option maxRecDepth 100000 in
theorem cX3_resolveObjects_c (l : Launch) (D : va_G) (cy : Nat → ClassId) (ad : Nat → Nat) (tL z0 : Nat) (hI : gI z0 ad) (n : Nat) (v : gV) (u : Int64) (a0 : Nat) (x1 : Int32) (x2 : Int32) (r0 : Int32) (v1 : gV) (hk0 : kd a0 = 3) (hs : sX3_resolveObjects n v a0 x1 x2 = some (r0, v1)) : Met l yX3_resolveObjects wsX3_resolveObjects ({ frames := 3, cells := 0, slots := 0, locals := 74 } : Room) (gPc D cy ad tL z0 v u [.ref (ad a0), .int x1, .int x2]) (gQi D cy ad tL z0 v1 u r0) 0 0 (gA z0) := by
  refine Met.ofW (cc := cX3_resolveObjects) (maxL := 3) (ret := (some .int)) (by decide) rfl ?_
  intro p e s m args below meth c s₁ B hml hv
  obtain ⟨rfl, hB0⟩ := hv
  have hP : va_P D vwCl (gW cy ad v u) s.heap := hB0.1
  have hK : gK D cy tL z0 s s.heap := hB0.2
  have hx := B.exec
  have hb := B.bytes
  have hr := B.returns
  have hts := atoms_spec (ws := wsX3_resolveObjects) B.pre
  have hown : s.vm.findClass RX3 = some m.cls := findClass_of_methodNamed B.named
  have hlocks := B.notSynchronized
  have hS : va_S (gA z0) s.heap s.heap [] := va_S.rf
  have hl := lv_entry ([.ref (ad a0), .int x1, .int x2]) (n := 3) (Nat.le_of_ble_eq_true rfl)
  rw [lg_entry_eq]
  generalize (lg_sl ([.ref (ad a0), .int x1, .int x2]) ++ List.replicate (3 - (lg_sl ([.ref (ad a0), .int x1, .int x2])).length) Slot.unset).toArray = ls at hl ⊢
  have hl : lv_has ls 3 [(0, .ref (ad a0)), (1, .int x1), (2, .int x2)] := hl
  have iX3 := (show ∀ w ∈ u_ws RX3 TX3 9, w ∈ wsX3_resolveObjects by decide +kernel)
  have f21 := hts (.fieldLink RX3 21 "AdventureParser$State" "command" "LAdventureParser$Command;") (by decide +kernel)
  have iX1 := (show ∀ w ∈ u_ws RX1 TX1 8, w ∈ wsX3_resolveObjects by decide +kernel)
  have f129 := hts (.fieldLink RX3 129 "AdventureParser$Command" "form" "I") (by decide +kernel)
  have f39 := hts (.fieldLink RX3 39 "AdventureParser$State" "several" "I") (by decide +kernel)
  clear hB0
  unfold sX3_resolveObjects at hs
  refine lv_aload_n hx hb dX3_resolveObjects_0 rfl (lv_at hl 0 rfl) ?_
  refine va_get (D := D) (ci := 3) (v := .ref (ad (a0 + 5))) (C := RX3) (T := TX3) (N := 9) hx hb hts iX3 hown hK.1 hP a0 (gW_3 hk0) rfl 1 (by decide) f21 (fun _ h9 => h9) rfl dX3_resolveObjects_1 ?_
  refine va_get (D := D) (ci := 1) (v := .int (v (a0 + 5) 4)) (C := RX1) (T := TX1) (N := 8) hx hb hts iX1 hown hK.1 hP (a0 + 5) (gW_1 (kd_3_5 hk0)) rfl 4 (by decide) f129 (fun _ h9 => h9) rfl dX3_resolveObjects_4 ?_
  by_cases hc7_1 : v (a0 + 5) 4 = 1
  · have hs := g_t hs hc7_1
    refine lv_tableIn (off := 25) (tgt := 32) hx hb dX3_resolveObjects_7 (by rw [hc7_1]; decide) (by rw [hc7_1]; decide) (by rw [hc7_1]; rfl) (by decide) ?_
    refine lv_iload_n hx hb dX3_resolveObjects_32 rfl (lv_at hl 2 rfl) ?_
    refine lv_aload_n hx hb dX3_resolveObjects_33 rfl (lv_at hl 0 rfl) ?_
    refine g_bind hs (fun q_1 hq_1 hs => ?_)
    refine gCV_i (As := []) (rest := [.int x2]) ⟨hx, hb, hml, hown, hts⟩ (cX3_listedSet_c l D cy ad tL z0 hI n v u a0 q_1 hk0 hq_1) (cwV 0 hts gX3_resolveObjects_X3_listedSet rfl rfl rfl (by decide +kernel) ⟨Nat.le_of_ble_eq_true rfl, Nat.le_of_ble_eq_true rfl⟩) hK hP hS (va_recv hK.1 hP (ci := 3) (q0 := a0) rfl (gW_3 hk0)) hl.1 rfl rfl (Nat.le_of_ble_eq_true rfl) dX3_resolveObjects_34 ⟨Nat.zero_le _, Nat.zero_le _⟩ (fun H locs hP hS => ?_)
    refine lv_iconst (v := (-1)) hx hb dX3_resolveObjects_37 (by decide) ?_
    refine lv_ixor hx hb dX3_resolveObjects_38 ?_
    refine lv_iand hx hb dX3_resolveObjects_39 ?_
    refine g_bind hs (fun q_2 hq_2 hs => ?_)
    refine gCS_i (As := [.int (x2 &&& (q_1 ^^^ ((-1))))]) (rest := []) ⟨hx, hb, hml, hown, hts⟩ (cX3_orNothingSuitable_c l D cy ad tL z0 hI v u (x2 &&& (q_1 ^^^ ((-1)))) q_2 hq_2) (va_cwS 1 hts gX3_resolveObjects_X3_orNothingSuitable rfl rfl rfl (by decide +kernel) ⟨Nat.le_of_ble_eq_true rfl, Nat.le_of_ble_eq_true rfl⟩) hK hP hS hl.1 rfl rfl (Nat.le_of_ble_eq_true rfl) dX3_resolveObjects_40 ⟨Nat.zero_le _, Nat.zero_le _⟩ (fun H locs hP hS => ?_)
    exact gRet_i hx hb hr hlocks hK hP hS (g_some2 hs) dX3_resolveObjects_43
  have hs := g_f hs hc7_1
  by_cases hc7_2 : v (a0 + 5) 4 = 2
  · have hs := g_t hs hc7_2
    refine lv_tableIn (off := 37) (tgt := 44) hx hb dX3_resolveObjects_7 (by rw [hc7_2]; decide) (by rw [hc7_2]; decide) (by rw [hc7_2]; rfl) (by decide) ?_
    refine lv_aload_n hx hb dX3_resolveObjects_44 rfl (lv_at hl 0 rfl) ?_
    refine lv_iload_n hx hb dX3_resolveObjects_45 rfl (lv_at hl 1 rfl) ?_
    refine lv_iload_n hx hb dX3_resolveObjects_46 rfl (lv_at hl 2 rfl) ?_
    refine g_bind hs (fun q_3 hq_3 hs => ?_)
    refine gCV_i (As := [.int x1, .int x2]) (rest := []) ⟨hx, hb, hml, hown, hts⟩ (cX3_resolveSingle_c l D cy ad tL z0 hI v u a0 x1 x2 q_3 hk0 hq_3) (cwV 2 hts gX3_resolveObjects_X3_resolveSingle rfl rfl rfl (by decide +kernel) ⟨Nat.le_of_ble_eq_true rfl, Nat.le_of_ble_eq_true rfl⟩) hK hP hS (va_recv hK.1 hP (ci := 3) (q0 := a0) rfl (gW_3 hk0)) hl.1 rfl rfl (Nat.le_of_ble_eq_true rfl) dX3_resolveObjects_47 ⟨Nat.zero_le _, Nat.zero_le _⟩ (fun H locs hP hS => ?_)
    exact gRet_i hx hb hr hlocks hK hP hS (g_some2 hs) dX3_resolveObjects_50
  have hs := g_f hs hc7_2
  by_cases hc7_3 : v (a0 + 5) 4 = 3
  · have hs := g_t hs hc7_3
    refine lv_tableIn (off := 44) (tgt := 51) hx hb dX3_resolveObjects_7 (by rw [hc7_3]; decide) (by rw [hc7_3]; decide) (by rw [hc7_3]; rfl) (by decide) ?_
    refine lv_aload_n hx hb dX3_resolveObjects_51 rfl (lv_at hl 0 rfl) ?_
    refine va_get (D := D) (ci := 3) (v := .int (v a0 3)) (C := RX3) (T := TX3) (N := 9) hx hb hts iX3 hown hK.1 hP a0 (gW_3 hk0) rfl 3 (by decide) f39 (fun _ h9 => h9) rfl dX3_resolveObjects_52 ?_
    refine lv_if_ne (tgt := 63) hx hb dX3_resolveObjects_55 (by decide) (fun hc => ?_) (fun hc => ?_)
    · have hs := g_f hs hc
      refine lv_iload_n hx hb dX3_resolveObjects_63 rfl (lv_at hl 2 rfl) ?_
      refine lv_aload_n hx hb dX3_resolveObjects_64 rfl (lv_at hl 0 rfl) ?_
      refine va_get (D := D) (ci := 3) (v := .int (v a0 3)) (C := RX3) (T := TX3) (N := 9) hx hb hts iX3 hown hK.1 hP a0 (gW_3 hk0) rfl 3 (by decide) f39 (fun _ h9 => h9) rfl dX3_resolveObjects_65 ?_
      refine lv_iand hx hb dX3_resolveObjects_68 ?_
      refine g_bind hs (fun q_4 hq_4 hs => ?_)
      refine gCS_i (As := [.int (x2 &&& (v a0 3))]) (rest := []) ⟨hx, hb, hml, hown, hts⟩ (cX3_orNothingSuitable_c l D cy ad tL z0 hI v u (x2 &&& (v a0 3)) q_4 hq_4) (va_cwS 1 hts gX3_resolveObjects_X3_orNothingSuitable rfl rfl rfl (by decide +kernel) ⟨Nat.le_of_ble_eq_true rfl, Nat.le_of_ble_eq_true rfl⟩) hK hP hS hl.1 rfl rfl (Nat.le_of_ble_eq_true rfl) dX3_resolveObjects_69 ⟨Nat.zero_le _, Nat.zero_le _⟩ (fun H locs hP hS => ?_)
      exact gRet_i hx hb hr hlocks hK hP hS (g_some2 hs) dX3_resolveObjects_72
    · have hs := g_t hs hc
      refine lv_bipush (v := (-4)) hx hb dX3_resolveObjects_58 (by decide) ?_
      refine lv_goto (tgt := 72) hx hb dX3_resolveObjects_60 (by decide) ?_
      exact gRet_i hx hb hr hlocks hK hP hS (g_some2 hs) dX3_resolveObjects_72
  have hs := g_f hs hc7_3
  refine lv_tableOut (tgt := 73) hx hb dX3_resolveObjects_7 (by have n1 := g_neI (i := 1) hc7_1 (by decide); have n2 := g_neI (i := 2) hc7_2 (by decide); have n3 := g_neI (i := 3) hc7_3 (by decide); omega) (by decide) ?_
  refine lv_aload_n hx hb dX3_resolveObjects_73 rfl (lv_at hl 0 rfl) ?_
  refine lv_iload_n hx hb dX3_resolveObjects_74 rfl (lv_at hl 1 rfl) ?_
  refine lv_iload_n hx hb dX3_resolveObjects_75 rfl (lv_at hl 2 rfl) ?_
  refine g_bind hs (fun q_5 hq_5 hs => ?_)
  refine gCV_i (As := [.int x1, .int x2]) (rest := []) ⟨hx, hb, hml, hown, hts⟩ (cX3_resolveList_c l D cy ad tL z0 hI n v u a0 x1 x2 q_5.1 q_5.2 hk0 hq_5) (cwV 2 hts gX3_resolveObjects_X3_resolveList rfl rfl rfl (by decide +kernel) ⟨Nat.le_of_ble_eq_true rfl, Nat.le_of_ble_eq_true rfl⟩) hK hP hS (va_recv hK.1 hP (ci := 3) (q0 := a0) rfl (gW_3 hk0)) hl.1 rfl rfl (Nat.le_of_ble_eq_true rfl) dX3_resolveObjects_76 ⟨Nat.zero_le _, Nat.zero_le _⟩ (fun H locs hP hS => ?_)
  exact gRet_i hx hb hr hlocks hK hP hS (g_some2 hs) dX3_resolveObjects_79
set_option maxHeartbeats 4000000 in
set_option maxRecDepth 100000 in
theorem cX3_firstOf_c (l : Launch) (D : va_G) (cy : Nat → ClassId) (ad : Nat → Nat) (tL z0 : Nat) (hI : gI z0 ad) (n : Nat) (v : gV) (u : Int64) (x0 : Int32) (r0 : Int32) (hs : sX3_firstOf n x0 = some r0) : Met l yX3_firstOf wsX3_firstOf ({ frames := 0, cells := 0, slots := 0, locals := 0 } : Room) (gPc D cy ad tL z0 v u [.int x0]) (gQi D cy ad tL z0 v u r0) 0 0 (gA z0) := by
  refine Met.ofW (cc := cX3_firstOf) (maxL := 2) (ret := (some .int)) (by decide) rfl ?_
  intro p e s m args below meth c s₁ B hml hv
  obtain ⟨rfl, hB0⟩ := hv
  have hP : va_P D vwCl (gW cy ad v u) s.heap := hB0.1
  have hK : gK D cy tL z0 s s.heap := hB0.2
  have hx := B.exec
  have hb := B.bytes
  have hr := B.returns
  have hts := atoms_spec (ws := wsX3_firstOf) B.pre
  have hown : s.vm.findClass RX3 = some m.cls := findClass_of_methodNamed B.named
  have hlocks := B.notSynchronized
  have hS : va_S (gA z0) s.heap s.heap [] := va_S.rf
  have hl := lv_entry ([.int x0]) (n := 2) (Nat.le_of_ble_eq_true rfl)
  rw [lg_entry_eq]
  generalize (lg_sl ([.int x0]) ++ List.replicate (2 - (lg_sl ([.int x0])).length) Slot.unset).toArray = ls at hl ⊢
  have hl : lv_has ls 2 [(0, .int x0)] := hl
  clear hB0
  have hL_2 : ∀ (k : Nat), ∀ (w0 : Int32) (w1 : Int32) (H : Heap) (locs : List Loc) (ls : Array Slot), va_P D vwCl (gW cy ad v u) H → va_S (gA z0) s.heap H locs → lv_has ls 2 [(0, .int w0), (1, .int w1)] → sX3_firstOf_2 n k w0 w1 = some r0 → W p l e (headSpec wsX3_firstOf ({ frames := 0, cells := 0, slots := 0, locals := 0 } : Room)).room s m ([.int x0] : List Value).toArray below meth c H locs 0 0 (MQ below (gQi D cy ad tL z0 v u r0) ([.int x0] : List Value).toArray s 0 0 (gA z0)) (F0 m 2 ls []) := by
    intro k
    induction k with
    | zero =>
      intro w0 w1 H locs ls hP hS hl hs
      exact g_none hs
    | succ k ih =>
      intro w0 w1 H locs ls hP hS hl hs
      rw [sX3_firstOf_2] at hs
      refine lv_iload_n hx hb dX3_firstOf_2 rfl (lv_at hl 1 rfl) ?_
      refine lv_bipush (v := 12) hx hb dX3_firstOf_3 (by decide) ?_
      refine lv_icmp_ge (tgt := 24) hx hb dX3_firstOf_5 (by decide) (fun hc => ?_) (fun hc => ?_)
      · have hs := g_t hs hc
        refine lv_iconst (v := (-1)) hx hb dX3_firstOf_24 (by decide) ?_
        exact gRet_i hx hb hr hlocks hK hP hS ⟨g_some hs, rfl⟩ dX3_firstOf_25
      · have hs := g_f hs hc
        refine lv_iload_n hx hb dX3_firstOf_8 rfl (lv_at hl 0 rfl) ?_
        refine lv_iconst (v := 1) hx hb dX3_firstOf_9 (by decide) ?_
        refine lv_iload_n hx hb dX3_firstOf_10 rfl (lv_at hl 1 rfl) ?_
        refine lv_ishl hx hb dX3_firstOf_11 ?_
        refine lv_iand hx hb dX3_firstOf_12 ?_
        refine lv_if_eq (tgt := 18) hx hb dX3_firstOf_13 (by decide) (fun hc => ?_) (fun hc => ?_)
        · have hs := g_t hs hc
          refine lv_iinc (v := w1 + 1) (lv' := [(1, .int (w1 + 1)), (0, .int w0)]) hx hb dX3_firstOf_18 hl (k := 1) rfl rfl (by decide) rfl (fun ls hl => ?_)
          refine lv_goto (tgt := 2) hx hb dX3_firstOf_21 (by decide) ?_
          exact ih w0 (w1 + 1) _ _ _ hP hS (lv_sub hl [1, 0] rfl) hs
        · have hs := g_f hs hc
          refine lv_iload_n hx hb dX3_firstOf_16 rfl (lv_at hl 1 rfl) ?_
          exact gRet_i hx hb hr hlocks hK hP hS ⟨g_some hs, rfl⟩ dX3_firstOf_17
  unfold sX3_firstOf at hs
  refine lv_iconst (v := 0) hx hb dX3_firstOf_0 (by decide) ?_
  refine lv_istore_n (lv' := [(1, .int 0), (0, .int x0)]) hx hb dX3_firstOf_1 rfl hl (by decide) rfl (fun ls hl => ?_)
  exact hL_2 n x0 0 _ _ _ hP hS (lv_sub hl [1, 0] rfl) hs
set_option maxHeartbeats 4000000 in
set_option maxRecDepth 100000 in
theorem cX4_destination_c (l : Launch) (D : va_G) (cy : Nat → ClassId) (ad : Nat → Nat) (tL z0 : Nat) (hI : gI z0 ad) (v : gV) (u : Int64) (a0 : Nat) (x1 : Int32) (x2 : Int32) (r0 : Int32) (hk0 : kd a0 = 4) (hs : sX4_destination v a0 x1 x2 = some r0) : Met l yX4_destination wsX4_destination ({ frames := 0, cells := 0, slots := 0, locals := 0 } : Room) (gPc D cy ad tL z0 v u [.ref (ad a0), .int x1, .int x2]) (gQi D cy ad tL z0 v u r0) 0 0 (gA z0) := by
  refine Met.ofW (cc := cX4_destination) (maxL := 3) (ret := (some .int)) (by decide) rfl ?_
  intro p e s m args below meth c s₁ B hml hv
  obtain ⟨rfl, hB0⟩ := hv
  have hP : va_P D vwCl (gW cy ad v u) s.heap := hB0.1
  have hK : gK D cy tL z0 s s.heap := hB0.2
  have hx := B.exec
  have hb := B.bytes
  have hr := B.returns
  have hts := atoms_spec (ws := wsX4_destination) B.pre
  have hown : s.vm.findClass RX4 = some m.cls := findClass_of_methodNamed B.named
  have hlocks := B.notSynchronized
  have hS : va_S (gA z0) s.heap s.heap [] := va_S.rf
  have hl := lv_entry ([.ref (ad a0), .int x1, .int x2]) (n := 3) (Nat.le_of_ble_eq_true rfl)
  rw [lg_entry_eq]
  generalize (lg_sl ([.ref (ad a0), .int x1, .int x2]) ++ List.replicate (3 - (lg_sl ([.ref (ad a0), .int x1, .int x2])).length) Slot.unset).toArray = ls at hl ⊢
  have hl : lv_has ls 3 [(0, .ref (ad a0)), (1, .int x1), (2, .int x2)] := hl
  have iX4 := (show ∀ w ∈ u_ws RX4 TX4 6, w ∈ wsX4_destination by decide +kernel)
  have f25 := hts (.fieldLink RX4 25 "AdventureParser$World" "room" "I") (by decide +kernel)
  clear hB0
  unfold sX4_destination at hs
  refine lv_iload_n hx hb dX4_destination_0 rfl (lv_at hl 1 rfl) ?_
  refine lv_if_ne (tgt := 6) hx hb dX4_destination_1 (by decide) (fun hc => ?_) (fun hc => ?_)
  · have hs := g_f hs hc
    refine lv_iload_n hx hb dX4_destination_6 rfl (lv_at hl 1 rfl) ?_
    refine lv_iconst (v := 1) hx hb dX4_destination_7 (by decide) ?_
    refine lv_icmp_ne (tgt := 18) hx hb dX4_destination_8 (by decide) (fun hc => ?_) (fun hc => ?_)
    · have hs := g_f hs hc
      refine lv_iload_n hx hb dX4_destination_18 rfl (lv_at hl 2 rfl) ?_
      exact gRet_i hx hb hr hlocks hK hP hS ⟨g_some hs, rfl⟩ dX4_destination_19
    · have hs := g_t hs hc
      refine lv_aload_n hx hb dX4_destination_11 rfl (lv_at hl 0 rfl) ?_
      refine va_get (D := D) (ci := 4) (v := .int (v a0 4)) (C := RX4) (T := TX4) (N := 6) hx hb hts iX4 hown hK.1 hP a0 (gW_4 hk0) rfl 4 (by decide) f25 (fun _ h9 => h9) rfl dX4_destination_12 ?_
      refine lv_goto (tgt := 19) hx hb dX4_destination_15 (by decide) ?_
      exact gRet_i hx hb hr hlocks hK hP hS ⟨g_some hs, rfl⟩ dX4_destination_19
  · have hs := g_t hs hc
    refine lv_iconst (v := 4) hx hb dX4_destination_4 (by decide) ?_
    exact gRet_i hx hb hr hlocks hK hP hS ⟨g_some hs, rfl⟩ dX4_destination_5
set_option maxHeartbeats 4000000 in
set_option maxRecDepth 100000 in
theorem cX4_exists_c (l : Launch) (D : va_G) (cy : Nat → ClassId) (ad : Nat → Nat) (tL z0 : Nat) (hI : gI z0 ad) (v : gV) (u : Int64) (a0 : Nat) (x1 : Int32) (r0 : Int32) (hk0 : kd a0 = 4) (hs : sX4_exists v a0 x1 = some r0) : Met l yX4_exists wsX4_exists ({ frames := 0, cells := 0, slots := 0, locals := 0 } : Room) (gPc D cy ad tL z0 v u [.ref (ad a0), .int x1]) (gQi D cy ad tL z0 v u r0) 0 0 (gA z0) := by
  refine Met.ofW (cc := cX4_exists) (maxL := 2) (ret := (some .boolean)) (by decide) rfl ?_
  intro p e s m args below meth c s₁ B hml hv
  obtain ⟨rfl, hB0⟩ := hv
  have hP : va_P D vwCl (gW cy ad v u) s.heap := hB0.1
  have hK : gK D cy tL z0 s s.heap := hB0.2
  have hx := B.exec
  have hb := B.bytes
  have hr := B.returns
  have hts := atoms_spec (ws := wsX4_exists) B.pre
  have hown : s.vm.findClass RX4 = some m.cls := findClass_of_methodNamed B.named
  have hlocks := B.notSynchronized
  have hS : va_S (gA z0) s.heap s.heap [] := va_S.rf
  have hl := lv_entry ([.ref (ad a0), .int x1]) (n := 2) (Nat.le_of_ble_eq_true rfl)
  rw [lg_entry_eq]
  generalize (lg_sl ([.ref (ad a0), .int x1]) ++ List.replicate (2 - (lg_sl ([.ref (ad a0), .int x1])).length) Slot.unset).toArray = ls at hl ⊢
  have hl : lv_has ls 2 [(0, .ref (ad a0)), (1, .int x1)] := hl
  have iX4 := (show ∀ w ∈ u_ws RX4 TX4 6, w ∈ wsX4_exists by decide +kernel)
  have f21 := hts (.fieldLink RX4 21 "AdventureParser$World" "count" "I") (by decide +kernel)
  clear hB0
  unfold sX4_exists at hs
  refine lv_iload_n hx hb dX4_exists_0 rfl (lv_at hl 1 rfl) ?_
  refine lv_if_lt (tgt := 22) hx hb dX4_exists_1 (by decide) (fun hc => ?_) (fun hc => ?_)
  · have hs := g_t hs hc
    refine lv_iconst (v := 0) hx hb dX4_exists_22 (by decide) ?_
    exact gRet_z hx hb hr hlocks rfl hK hP hS ⟨g_some hs, rfl⟩ dX4_exists_23
  · have hs := g_f hs hc
    refine lv_iload_n hx hb dX4_exists_4 rfl (lv_at hl 1 rfl) ?_
    refine lv_aload_n hx hb dX4_exists_5 rfl (lv_at hl 0 rfl) ?_
    refine va_get (D := D) (ci := 4) (v := .int (v a0 3)) (C := RX4) (T := TX4) (N := 6) hx hb hts iX4 hown hK.1 hP a0 (gW_4 hk0) rfl 3 (by decide) f21 (fun _ h9 => h9) rfl dX4_exists_6 ?_
    refine lv_icmp_ge (tgt := 22) hx hb dX4_exists_9 (by decide) (fun hc => ?_) (fun hc => ?_)
    · have hs := g_t hs hc
      refine lv_iconst (v := 0) hx hb dX4_exists_22 (by decide) ?_
      exact gRet_z hx hb hr hlocks rfl hK hP hS ⟨g_some hs, rfl⟩ dX4_exists_23
    · have hs := g_f hs hc
      refine lv_iload_n hx hb dX4_exists_12 rfl (lv_at hl 1 rfl) ?_
      refine lv_bipush (v := 12) hx hb dX4_exists_13 (by decide) ?_
      refine lv_icmp_ge (tgt := 22) hx hb dX4_exists_15 (by decide) (fun hc => ?_) (fun hc => ?_)
      · have hs := g_t hs hc
        refine lv_iconst (v := 0) hx hb dX4_exists_22 (by decide) ?_
        exact gRet_z hx hb hr hlocks rfl hK hP hS ⟨g_some hs, rfl⟩ dX4_exists_23
      · have hs := g_f hs hc
        refine lv_iconst (v := 1) hx hb dX4_exists_18 (by decide) ?_
        refine lv_goto (tgt := 23) hx hb dX4_exists_19 (by decide) ?_
        exact gRet_z hx hb hr hlocks rfl hK hP hS ⟨g_some hs, rfl⟩ dX4_exists_23
set_option maxHeartbeats 4000000 in
set_option maxRecDepth 100000 in
theorem cX4_isFull_c (l : Launch) (D : va_G) (cy : Nat → ClassId) (ad : Nat → Nat) (tL z0 : Nat) (hI : gI z0 ad) (n : Nat) (v : gV) (u : Int64) (a0 : Nat) (x1 : Int32) (r0 : Int32) (hk0 : kd a0 = 4) (hs : sX4_isFull n v a0 x1 = some r0) : Met l yX4_isFull wsX4_isFull ({ frames := 1, cells := 0, slots := 0, locals := 23 } : Room) (gPc D cy ad tL z0 v u [.ref (ad a0), .int x1]) (gQi D cy ad tL z0 v u r0) 0 0 (gA z0) := by
  refine Met.ofW (cc := cX4_isFull) (maxL := 3) (ret := (some .boolean)) (by decide) rfl ?_
  intro p e s m args below meth c s₁ B hml hv
  obtain ⟨rfl, hB0⟩ := hv
  have hP : va_P D vwCl (gW cy ad v u) s.heap := hB0.1
  have hK : gK D cy tL z0 s s.heap := hB0.2
  have hx := B.exec
  have hb := B.bytes
  have hr := B.returns
  have hts := atoms_spec (ws := wsX4_isFull) B.pre
  have hown : s.vm.findClass RX4 = some m.cls := findClass_of_methodNamed B.named
  have hlocks := B.notSynchronized
  have hS : va_S (gA z0) s.heap s.heap [] := va_S.rf
  have hl := lv_entry ([.ref (ad a0), .int x1]) (n := 3) (Nat.le_of_ble_eq_true rfl)
  rw [lg_entry_eq]
  generalize (lg_sl ([.ref (ad a0), .int x1]) ++ List.replicate (3 - (lg_sl ([.ref (ad a0), .int x1])).length) Slot.unset).toArray = ls at hl ⊢
  have hl : lv_has ls 3 [(0, .ref (ad a0)), (1, .int x1)] := hl
  have stX5_isRoom := hts (.static yX5_isRoom) (by decide +kernel)
  have inX5 := hts (.initialized RX5) (by decide +kernel)
  clear hB0
  have hJ_11 : ∀ (w1 : Int32) (t0 : Int32) (H : Heap) (locs : List Loc) (ls : Array Slot), va_P D vwCl (gW cy ad v u) H → va_S (gA z0) s.heap H locs → lv_has ls 3 [(0, .ref (ad a0)), (1, .int w1)] → sX4_isFull_11 n a0 v w1 t0 = some r0 → W p l e (headSpec wsX4_isFull ({ frames := 1, cells := 0, slots := 0, locals := 23 } : Room)).room s m ([.ref (ad a0), .int x1] : List Value).toArray below meth c H locs 0 0 (MQ below (gQi D cy ad tL z0 v u r0) ([.ref (ad a0), .int x1] : List Value).toArray s 0 0 (gA z0)) (F0 m 11 ls [.int t0]) := by
    intro w1 t0 H locs ls hP hS hl hs
    unfold sX4_isFull_11 at hs
    refine lv_istore_n (lv' := [(2, .int t0), (0, .ref (ad a0)), (1, .int w1)]) hx hb dX4_isFull_11 rfl hl (by decide) rfl (fun ls hl => ?_)
    refine lv_iload_n hx hb dX4_isFull_12 rfl (lv_at hl 2 rfl) ?_
    refine g_bind hs (fun q_1 hq_1 hs => ?_)
    refine gCN_i (As := [.int w1]) (rest := []) ⟨hx, hb, hml, hown, hts⟩ (cX5_isRoom_c l D cy ad tL z0 hI v u w1 q_1 hq_1) (va_cnB (host := RX5) 1 hts gX4_isFull_X5_isRoom_n31 rfl rfl rfl (hK.2.2.2.1 _ (List.mem_of_getElem? (i := 1) rfl)) inX5 (by decide +kernel) ⟨Nat.le_of_ble_eq_true rfl, Nat.le_of_ble_eq_true rfl⟩) stX5_isRoom hK hP hS hl.1 rfl rfl (Nat.le_of_ble_eq_true rfl) dX4_isFull_13 ⟨Nat.zero_le _, Nat.zero_le _⟩ (fun H locs hP hS => ?_)
    refine lv_if_ne (tgt := 35) hx hb dX4_isFull_16 (by decide) (fun hc => ?_) (fun hc => ?_)
    · have hs := g_f hs hc
      refine lv_iconst (v := 0) hx hb dX4_isFull_35 (by decide) ?_
      exact gRet_z hx hb hr hlocks rfl hK hP hS ⟨g_some hs, rfl⟩ dX4_isFull_36
    · have hs := g_t hs hc
      refine lv_aload_n hx hb dX4_isFull_19 rfl (lv_at hl 1 rfl) ?_
      refine lv_iload_n hx hb dX4_isFull_20 rfl (lv_at hl 2 rfl) ?_
      refine g_bind hs (fun q_2 hq_2 hs => ?_)
      refine gCV_i (As := [.int w1]) (rest := []) ⟨hx, hb, hml, hown, hts⟩ (cX4_setAt_c l D cy ad tL z0 hI n v u a0 w1 q_2 hk0 hq_2) (cwV 1 hts gX4_isFull_X4_setAt rfl rfl rfl (by decide +kernel) ⟨Nat.le_of_ble_eq_true rfl, Nat.le_of_ble_eq_true rfl⟩) hK hP hS (va_recv hK.1 hP (ci := 4) (q0 := a0) rfl (gW_4 hk0)) hl.1 rfl rfl (Nat.le_of_ble_eq_true rfl) dX4_isFull_21 ⟨Nat.zero_le _, Nat.zero_le _⟩ (fun H locs hP hS => ?_)
      refine g_bind hs (fun q_3 hq_3 hs => ?_)
      refine gCS_i (As := [.int q_2]) (rest := []) ⟨hx, hb, hml, hown, hts⟩ (cJ6_bitCount_0f7a4_c l D cy ad tL z0 hI v u q_2 q_3 hq_3) (va_cwS 1 hts gX4_isFull_J6_bitCount_0f7a4 rfl rfl rfl (by decide +kernel) ⟨Nat.le_of_ble_eq_true rfl, Nat.le_of_ble_eq_true rfl⟩) hK hP hS hl.1 rfl rfl (Nat.le_of_ble_eq_true rfl) dX4_isFull_24 ⟨Nat.zero_le _, Nat.zero_le _⟩ (fun H locs hP hS => ?_)
      refine lv_iload_n hx hb dX4_isFull_27 rfl (lv_at hl 0 rfl) ?_
      refine lv_icmp_lt (tgt := 35) hx hb dX4_isFull_28 (by decide) (fun hc => ?_) (fun hc => ?_)
      · have hs := g_t hs hc
        refine lv_iconst (v := 0) hx hb dX4_isFull_35 (by decide) ?_
        exact gRet_z hx hb hr hlocks rfl hK hP hS ⟨g_some hs, rfl⟩ dX4_isFull_36
      · have hs := g_f hs hc
        refine lv_iconst (v := 1) hx hb dX4_isFull_31 (by decide) ?_
        refine lv_goto (tgt := 36) hx hb dX4_isFull_32 (by decide) ?_
        exact gRet_z hx hb hr hlocks rfl hK hP hS ⟨g_some hs, rfl⟩ dX4_isFull_36
  unfold sX4_isFull at hs
  refine lv_iload_n hx hb dX4_isFull_0 rfl (lv_at hl 1 rfl) ?_
  refine lv_iconst (v := 4) hx hb dX4_isFull_1 (by decide) ?_
  refine lv_icmp_ne (tgt := 10) hx hb dX4_isFull_2 (by decide) (fun hc => ?_) (fun hc => ?_)
  · have hs := g_f hs hc
    refine lv_iconst (v := 4) hx hb dX4_isFull_10 (by decide) ?_
    exact hJ_11 x1 4 _ _ _ hP hS (lv_sub hl [0, 1] rfl) hs
  · have hs := g_t hs hc
    refine lv_bipush (v := 6) hx hb dX4_isFull_5 (by decide) ?_
    refine lv_goto (tgt := 11) hx hb dX4_isFull_7 (by decide) ?_
    exact hJ_11 x1 6 _ _ _ hP hS (lv_sub hl [0, 1] rfl) hs
set_option maxHeartbeats 4000000 in
set_option maxRecDepth 100000 in
theorem cX4_apply_c (l : Launch) (D : va_G) (cy : Nat → ClassId) (ad : Nat → Nat) (tL z0 : Nat) (hI : gI z0 ad) (n : Nat) (v : gV) (u : Int64) (a0 : Nat) (x1 : Int32) (x2 : Int32) (x3 : Int32) (r0 : Int32) (v1 : gV) (hk0 : kd a0 = 4) (hs : sX4_apply n v a0 x1 x2 x3 = some (r0, v1)) : Met l yX4_apply wsX4_apply ({ frames := 2, cells := 0, slots := 0, locals := 45 } : Room) (gPc D cy ad tL z0 v u [.ref (ad a0), .int x1, .int x2, .int x3]) (gQi D cy ad tL z0 v1 u r0) 0 0 (gA z0) := by
  refine Met.ofW (cc := cX4_apply) (maxL := 5) (ret := (some .boolean)) (by decide) rfl ?_
  intro p e s m args below meth c s₁ B hml hv
  obtain ⟨rfl, hB0⟩ := hv
  have hP : va_P D vwCl (gW cy ad v u) s.heap := hB0.1
  have hK : gK D cy tL z0 s s.heap := hB0.2
  have hx := B.exec
  have hb := B.bytes
  have hr := B.returns
  have hts := atoms_spec (ws := wsX4_apply) B.pre
  have hown : s.vm.findClass RX4 = some m.cls := findClass_of_methodNamed B.named
  have hlocks := B.notSynchronized
  have hS : va_S (gA z0) s.heap s.heap [] := va_S.rf
  have hl := lv_entry ([.ref (ad a0), .int x1, .int x2, .int x3]) (n := 5) (Nat.le_of_ble_eq_true rfl)
  rw [lg_entry_eq]
  generalize (lg_sl ([.ref (ad a0), .int x1, .int x2, .int x3]) ++ List.replicate (5 - (lg_sl ([.ref (ad a0), .int x1, .int x2, .int x3])).length) Slot.unset).toArray = ls at hl ⊢
  have hl : lv_has ls 5 [(0, .ref (ad a0)), (1, .int x1), (2, .int x2), (3, .int x3)] := hl
  have iX4 := (show ∀ w ∈ u_ws RX4 TX4 6, w ∈ wsX4_apply by decide +kernel)
  have f18 := hts (.fieldLink RX4 18 "AdventureParser$World" "places" "[I") (by decide +kernel)
  have f28 := hts (.fieldLink RX4 28 "AdventureParser$World" "openSet" "I") (by decide +kernel)
  clear hB0
  unfold sX4_apply at hs
  refine lv_iload_n hx hb dX4_apply_0 rfl (lv_at hl 1 rfl) ?_
  refine lv_iconst (v := 3) hx hb dX4_apply_1 (by decide) ?_
  refine lv_icmp_ne (tgt := 19) hx hb dX4_apply_2 (by decide) (fun hc => ?_) (fun hc => ?_)
  · have hs := g_f hs hc
    refine lv_iload_n hx hb dX4_apply_19 rfl (lv_at hl 1 rfl) ?_
    refine lv_iconst (v := 4) hx hb dX4_apply_20 (by decide) ?_
    refine lv_icmp_ne (tgt := 40) hx hb dX4_apply_21 (by decide) (fun hc => ?_) (fun hc => ?_)
    · have hs := g_f hs hc
      refine lv_aload_n hx hb dX4_apply_40 rfl (lv_at hl 0 rfl) ?_
      refine lv_iload_n hx hb dX4_apply_41 rfl (lv_at hl 1 rfl) ?_
      refine lv_iload_n hx hb dX4_apply_42 rfl (lv_at hl 3 rfl) ?_
      refine g_bind hs (fun q_1 hq_1 hs => ?_)
      refine gCV_i (As := [.int x1, .int x3]) (rest := []) ⟨hx, hb, hml, hown, hts⟩ (cX4_destination_c l D cy ad tL z0 hI v u a0 x1 x3 q_1 hk0 hq_1) (cwV 2 hts gX4_apply_X4_destination rfl rfl rfl (by decide +kernel) ⟨Nat.le_of_ble_eq_true rfl, Nat.le_of_ble_eq_true rfl⟩) hK hP hS (va_recv hK.1 hP (ci := 4) (q0 := a0) rfl (gW_4 hk0)) hl.1 rfl rfl (Nat.le_of_ble_eq_true rfl) dX4_apply_43 ⟨Nat.zero_le _, Nat.zero_le _⟩ (fun H locs hP hS => ?_)
      refine lv_istore (lv' := [(4, .int q_1), (0, .ref (ad a0)), (1, .int x1), (2, .int x2), (3, .int x3)]) hx hb dX4_apply_46 hl (by decide) rfl (fun ls hl => ?_)
      refine lv_aload_n hx hb dX4_apply_48 rfl (lv_at hl 1 rfl) ?_
      refine lv_iload_n hx hb dX4_apply_49 rfl (lv_at hl 3 rfl) ?_
      refine g_bind hs (fun q_2 hq_2 hs => ?_)
      refine gCV_i (As := [.int x2]) (rest := []) ⟨hx, hb, hml, hown, hts⟩ (cX4_exists_c l D cy ad tL z0 hI v u a0 x2 q_2 hk0 hq_2) (cwV 1 hts gX4_apply_X4_exists rfl rfl rfl (by decide +kernel) ⟨Nat.le_of_ble_eq_true rfl, Nat.le_of_ble_eq_true rfl⟩) hK hP hS (va_recv hK.1 hP (ci := 4) (q0 := a0) rfl (gW_4 hk0)) hl.1 rfl rfl (Nat.le_of_ble_eq_true rfl) dX4_apply_50 ⟨Nat.zero_le _, Nat.zero_le _⟩ (fun H locs hP hS => ?_)
      refine lv_if_eq (tgt := 65) hx hb dX4_apply_53 (by decide) (fun hc => ?_) (fun hc => ?_)
      · have hs := g_t hs hc
        refine lv_iconst (v := 0) hx hb dX4_apply_65 (by decide) ?_
        exact gRet_z hx hb hr hlocks rfl hK hP hS (g_some2 hs) dX4_apply_66
      · have hs := g_f hs hc
        refine lv_aload_n hx hb dX4_apply_56 rfl (lv_at hl 1 rfl) ?_
        refine lv_iload hx hb dX4_apply_57 (lv_at hl 0 rfl) ?_
        refine g_bind hs (fun q_3 hq_3 hs => ?_)
        refine gCV_i (As := [.int q_1]) (rest := []) ⟨hx, hb, hml, hown, hts⟩ (cX4_isFull_c l D cy ad tL z0 hI n v u a0 q_1 q_3 hk0 hq_3) (cwV 1 hts gX4_apply_X4_isFull rfl rfl rfl (by decide +kernel) ⟨Nat.le_of_ble_eq_true rfl, Nat.le_of_ble_eq_true rfl⟩) hK hP hS (va_recv hK.1 hP (ci := 4) (q0 := a0) rfl (gW_4 hk0)) hl.1 rfl rfl (Nat.le_of_ble_eq_true rfl) dX4_apply_59 ⟨Nat.zero_le _, Nat.zero_le _⟩ (fun H locs hP hS => ?_)
        refine lv_if_eq (tgt := 67) hx hb dX4_apply_62 (by decide) (fun hc => ?_) (fun hc => ?_)
        · have hs := g_t hs hc
          refine lv_aload_n hx hb dX4_apply_67 rfl (lv_at hl 1 rfl) ?_
          refine va_get (D := D) (ci := 4) (v := .ref (ad (a0 + 3))) (C := RX4) (T := TX4) (N := 6) hx hb hts iX4 hown hK.1 hP a0 (gW_4 hk0) rfl 2 (by decide) f18 (fun _ h9 => h9) rfl dX4_apply_68 ?_
          refine lv_iload_n hx hb dX4_apply_71 rfl (lv_at hl 3 rfl) ?_
          refine lv_iload hx hb dX4_apply_72 (lv_at hl 0 rfl) ?_
          refine g_chk hs (fun hc hs => ?_)
          refine va_iast hx hb hK.1 hP (gD hI) hS (a0 + 3) 0 (gW_12 (kd_4_3 hk0)) rfl hc dX4_apply_74 (fun H locs hP _ hS => ?_)
          refine g_let hs (fun v_4 ev_4 hs => ?_)
          have hP : va_P D vwCl (gW cy ad v_4 u) H := gPset ((gS_12 (kd_4_3 hk0) x2.toNatClampNeg q_1).trans (congrArg (fun z => gW cy ad z u) ev_4.symm)) hP
          refine lv_iconst (v := 1) hx hb dX4_apply_75 (by decide) ?_
          exact gRet_z hx hb hr hlocks rfl hK hP hS (g_some2 hs) dX4_apply_76
        · have hs := g_f hs hc
          refine lv_iconst (v := 0) hx hb dX4_apply_65 (by decide) ?_
          exact gRet_z hx hb hr hlocks rfl hK hP hS (g_some2 hs) dX4_apply_66
    · have hs := g_t hs hc
      refine lv_aload_n hx hb dX4_apply_24 rfl (lv_at hl 0 rfl) ?_
      refine lv_dup hx hb dX4_apply_25 rfl ?_
      refine va_get (D := D) (ci := 4) (v := .int (v a0 5)) (C := RX4) (T := TX4) (N := 6) hx hb hts iX4 hown hK.1 hP a0 (gW_4 hk0) rfl 5 (by decide) f28 (fun _ h9 => h9) rfl dX4_apply_26 ?_
      refine lv_iconst (v := 1) hx hb dX4_apply_29 (by decide) ?_
      refine lv_iload_n hx hb dX4_apply_30 rfl (lv_at hl 2 rfl) ?_
      refine lv_ishl hx hb dX4_apply_31 ?_
      refine lv_iconst (v := (-1)) hx hb dX4_apply_32 (by decide) ?_
      refine lv_ixor hx hb dX4_apply_33 ?_
      refine lv_iand hx hb dX4_apply_34 ?_
      refine va_put (D := D) (ci := 4) (v := .int ((v a0 5) &&& (((1 : Int32) <<< (x2 &&& 31)) ^^^ ((-1))))) (ty := .int) (C := RX4) (T := TX4) (N := 6) hx hb hts iX4 tyX4 tyX4_ok nmX4 hown hK.1 hP (gD hI) hS a0 (gW_4 hk0) rfl 5 (by decide) f28 (fun _ h9 => h9) rfl (by decide +kernel) rfl rfl (Nat.le_of_ble_eq_true rfl) dX4_apply_35 (fun H locs hP _ hS => ?_)
      refine g_let hs (fun v_5 ev_5 hs => ?_)
      have hP : va_P D vwCl (gW cy ad v_5 u) H := gPset ((gS_4_5 hk0 ((v a0 5) &&& (((1 : Int32) <<< (x2 &&& 31)) ^^^ ((-1))))).trans (congrArg (fun z => gW cy ad z u) ev_5.symm)) hP
      refine lv_iconst (v := 1) hx hb dX4_apply_38 (by decide) ?_
      exact gRet_z hx hb hr hlocks rfl hK hP hS (g_some2 hs) dX4_apply_39
  · have hs := g_t hs hc
    refine lv_aload_n hx hb dX4_apply_5 rfl (lv_at hl 0 rfl) ?_
    refine lv_dup hx hb dX4_apply_6 rfl ?_
    refine va_get (D := D) (ci := 4) (v := .int (v a0 5)) (C := RX4) (T := TX4) (N := 6) hx hb hts iX4 hown hK.1 hP a0 (gW_4 hk0) rfl 5 (by decide) f28 (fun _ h9 => h9) rfl dX4_apply_7 ?_
    refine lv_iconst (v := 1) hx hb dX4_apply_10 (by decide) ?_
    refine lv_iload_n hx hb dX4_apply_11 rfl (lv_at hl 2 rfl) ?_
    refine lv_ishl hx hb dX4_apply_12 ?_
    refine lv_ior hx hb dX4_apply_13 ?_
    refine va_put (D := D) (ci := 4) (v := .int ((v a0 5) ||| ((1 : Int32) <<< (x2 &&& 31)))) (ty := .int) (C := RX4) (T := TX4) (N := 6) hx hb hts iX4 tyX4 tyX4_ok nmX4 hown hK.1 hP (gD hI) hS a0 (gW_4 hk0) rfl 5 (by decide) f28 (fun _ h9 => h9) rfl (by decide +kernel) rfl rfl (Nat.le_of_ble_eq_true rfl) dX4_apply_14 (fun H locs hP _ hS => ?_)
    refine g_let hs (fun v_6 ev_6 hs => ?_)
    have hP : va_P D vwCl (gW cy ad v_6 u) H := gPset ((gS_4_5 hk0 ((v a0 5) ||| ((1 : Int32) <<< (x2 &&& 31)))).trans (congrArg (fun z => gW cy ad z u) ev_6.symm)) hP
    refine lv_iconst (v := 1) hx hb dX4_apply_17 (by decide) ?_
    exact gRet_z hx hb hr hlocks rfl hK hP hS (g_some2 hs) dX4_apply_18
set_option maxHeartbeats 4000000 in
set_option maxRecDepth 100000 in
theorem cX3_execute_c (l : Launch) (D : va_G) (cy : Nat → ClassId) (ad : Nat → Nat) (tL z0 : Nat) (hI : gI z0 ad) (n : Nat) (v : gV) (u : Int64) (a0 : Nat) (x1 : Int32) (x2 : Int32) (r0 : Int32) (v1 : gV) (hk0 : kd a0 = 3) (hs : sX3_execute n v a0 x1 x2 = some (r0, v1)) : Met l yX3_execute wsX3_execute ({ frames := 3, cells := 0, slots := 0, locals := 69 } : Room) (gPc D cy ad tL z0 v u [.ref (ad a0), .int x1, .int x2]) (gQi D cy ad tL z0 v1 u r0) 0 0 (gA z0) := by
  refine Met.ofW (cc := cX3_execute) (maxL := 6) (ret := (some .int)) (by decide) rfl ?_
  intro p e s m args below meth c s₁ B hml hv
  obtain ⟨rfl, hB0⟩ := hv
  have hP : va_P D vwCl (gW cy ad v u) s.heap := hB0.1
  have hK : gK D cy tL z0 s s.heap := hB0.2
  have hx := B.exec
  have hb := B.bytes
  have hr := B.returns
  have hts := atoms_spec (ws := wsX3_execute) B.pre
  have hown : s.vm.findClass RX3 = some m.cls := findClass_of_methodNamed B.named
  have hlocks := B.notSynchronized
  have hS : va_S (gA z0) s.heap s.heap [] := va_S.rf
  have hl := lv_entry ([.ref (ad a0), .int x1, .int x2]) (n := 6) (Nat.le_of_ble_eq_true rfl)
  rw [lg_entry_eq]
  generalize (lg_sl ([.ref (ad a0), .int x1, .int x2]) ++ List.replicate (6 - (lg_sl ([.ref (ad a0), .int x1, .int x2])).length) Slot.unset).toArray = ls at hl ⊢
  have hl : lv_has ls 6 [(0, .ref (ad a0)), (1, .int x1), (2, .int x2)] := hl
  have iX3 := (show ∀ w ∈ u_ws RX3 TX3 9, w ∈ wsX3_execute by decide +kernel)
  have f39 := hts (.fieldLink RX3 39 "AdventureParser$State" "several" "I") (by decide +kernel)
  have f25 := hts (.fieldLink RX3 25 "AdventureParser$State" "single" "I") (by decide +kernel)
  have f12 := hts (.fieldLink RX3 12 "AdventureParser$State" "world" "LAdventureParser$World;") (by decide +kernel)
  have f21 := hts (.fieldLink RX3 21 "AdventureParser$State" "command" "LAdventureParser$Command;") (by decide +kernel)
  have iX1 := (show ∀ w ∈ u_ws RX1 TX1 8, w ∈ wsX3_execute by decide +kernel)
  have f90 := hts (.fieldLink RX3 90 "AdventureParser$Command" "verb" "I") (by decide +kernel)
  clear hB0
  have hL_13 : ∀ (k : Nat), ∀ (v : gV) (w1 : Int32) (w3 : Int32) (w4 : Int32) (w5 : Int32) (H : Heap) (locs : List Loc) (ls : Array Slot), va_P D vwCl (gW cy ad v u) H → va_S (gA z0) s.heap H locs → lv_has ls 6 [(0, .ref (ad a0)), (1, .int w1), (3, .int w3), (4, .int w4), (5, .int w5)] → sX3_execute_13 n a0 k v w1 w3 w4 w5 = some (r0, v1) → W p l e (headSpec wsX3_execute ({ frames := 3, cells := 0, slots := 0, locals := 69 } : Room)).room s m ([.ref (ad a0), .int x1, .int x2] : List Value).toArray below meth c H locs 0 0 (MQ below (gQi D cy ad tL z0 v1 u r0) ([.ref (ad a0), .int x1, .int x2] : List Value).toArray s 0 0 (gA z0)) (F0 m 13 ls []) := by
    intro k
    induction k with
    | zero =>
      intro v w1 w3 w4 w5 H locs ls hP hS hl hs
      exact g_none hs
    | succ k ih =>
      intro v w1 w3 w4 w5 H locs ls hP hS hl hs
      rw [sX3_execute_13] at hs
      refine lv_iload hx hb dX3_execute_13 (lv_at hl 4 rfl) ?_
      refine lv_bipush (v := 12) hx hb dX3_execute_15 (by decide) ?_
      refine lv_icmp_ge (tgt := 58) hx hb dX3_execute_17 (by decide) (fun hc => ?_) (fun hc => ?_)
      · have hs := g_t hs hc
        refine lv_iload_n hx hb dX3_execute_58 rfl (lv_at hl 1 rfl) ?_
        refine g_bind hs (fun q_2 hq_2 hs => ?_)
        refine gCS_i (As := [.int w1]) (rest := []) ⟨hx, hb, hml, hown, hts⟩ (cJ6_bitCount_0f7a4_c l D cy ad tL z0 hI v u w1 q_2 hq_2) (va_cwS 1 hts gX3_execute_J6_bitCount_0f7a4 rfl rfl rfl (by decide +kernel) ⟨Nat.le_of_ble_eq_true rfl, Nat.le_of_ble_eq_true rfl⟩) hK hP hS hl.1 rfl rfl (Nat.le_of_ble_eq_true rfl) dX3_execute_59 ⟨Nat.zero_le _, Nat.zero_le _⟩ (fun H locs hP hS => ?_)
        refine lv_iconst (v := 1) hx hb dX3_execute_62 (by decide) ?_
        refine lv_icmp_ne (tgt := 77) hx hb dX3_execute_63 (by decide) (fun hc => ?_) (fun hc => ?_)
        · have hs := g_f hs hc
          refine lv_aload_n hx hb dX3_execute_77 rfl (lv_at hl 0 rfl) ?_
          refine lv_iload_n hx hb dX3_execute_78 rfl (lv_at hl 1 rfl) ?_
          refine va_put (D := D) (ci := 3) (v := .int w1) (ty := .int) (C := RX3) (T := TX3) (N := 9) hx hb hts iX3 tyX3 tyX3_ok nmX3 hown hK.1 hP (gD hI) hS a0 (gW_3 hk0) rfl 3 (by decide) f39 (fun _ h9 => h9) rfl (by decide +kernel) rfl rfl (Nat.le_of_ble_eq_true rfl) dX3_execute_79 (fun H locs hP _ hS => ?_)
          refine g_let hs (fun v_3 ev_3 hs => ?_)
          have hP : va_P D vwCl (gW cy ad v_3 u) H := gPset ((gS_3_3 hk0 w1).trans (congrArg (fun z => gW cy ad z u) ev_3.symm)) hP
          refine lv_iload hx hb dX3_execute_82 (lv_at hl 3 rfl) ?_
          exact gRet_i hx hb hr hlocks hK hP hS (g_some2 hs) dX3_execute_84
        · have hs := g_t hs hc
          refine lv_aload_n hx hb dX3_execute_66 rfl (lv_at hl 0 rfl) ?_
          refine lv_iload_n hx hb dX3_execute_67 rfl (lv_at hl 1 rfl) ?_
          refine g_bind hs (fun q_4 hq_4 hs => ?_)
          refine gCS_i (As := [.int w1]) (rest := [.ref (ad a0)]) ⟨hx, hb, hml, hown, hts⟩ (cX3_firstOf_c l D cy ad tL z0 hI n v u w1 q_4 hq_4) (va_cwS 1 hts gX3_execute_X3_firstOf rfl rfl rfl (by decide +kernel) ⟨Nat.le_of_ble_eq_true rfl, Nat.le_of_ble_eq_true rfl⟩) hK hP hS hl.1 rfl rfl (Nat.le_of_ble_eq_true rfl) dX3_execute_68 ⟨Nat.zero_le _, Nat.zero_le _⟩ (fun H locs hP hS => ?_)
          refine va_put (D := D) (ci := 3) (v := .int q_4) (ty := .int) (C := RX3) (T := TX3) (N := 9) hx hb hts iX3 tyX3 tyX3_ok nmX3 hown hK.1 hP (gD hI) hS a0 (gW_3 hk0) rfl 2 (by decide) f25 (fun _ h9 => h9) rfl (by decide +kernel) rfl rfl (Nat.le_of_ble_eq_true rfl) dX3_execute_71 (fun H locs hP _ hS => ?_)
          refine g_let hs (fun v_5 ev_5 hs => ?_)
          have hP : va_P D vwCl (gW cy ad v_5 u) H := gPset ((gS_3_2 hk0 q_4).trans (congrArg (fun z => gW cy ad z u) ev_5.symm)) hP
          refine lv_goto (tgt := 82) hx hb dX3_execute_74 (by decide) ?_
          refine lv_iload hx hb dX3_execute_82 (lv_at hl 3 rfl) ?_
          exact gRet_i hx hb hr hlocks hK hP hS (g_some2 hs) dX3_execute_84
      · have hs := g_f hs hc
        refine lv_iload_n hx hb dX3_execute_20 rfl (lv_at hl 1 rfl) ?_
        refine lv_iconst (v := 1) hx hb dX3_execute_21 (by decide) ?_
        refine lv_iload hx hb dX3_execute_22 (lv_at hl 4 rfl) ?_
        refine lv_ishl hx hb dX3_execute_24 ?_
        refine lv_iand hx hb dX3_execute_25 ?_
        refine lv_if_eq (tgt := 52) hx hb dX3_execute_26 (by decide) (fun hc => ?_) (fun hc => ?_)
        · have hs := g_t hs hc
          refine lv_iinc (v := w5 + 1) (lv' := [(5, .int (w5 + 1)), (0, .ref (ad a0)), (1, .int w1), (3, .int w3), (4, .int w4)]) hx hb dX3_execute_52 hl (k := 4) rfl rfl (by decide) rfl (fun ls hl => ?_)
          refine lv_goto (tgt := 13) hx hb dX3_execute_55 (by decide) ?_
          exact ih v w1 w3 w4 (w5 + 1) _ _ _ hP hS (lv_sub hl [1, 2, 3, 4, 0] rfl) hs
        · have hs := g_f hs hc
          refine lv_aload_n hx hb dX3_execute_29 rfl (lv_at hl 0 rfl) ?_
          refine va_get (D := D) (ci := 3) (v := .ref (ad (a0 + 1))) (C := RX3) (T := TX3) (N := 9) hx hb hts iX3 hown hK.1 hP a0 (gW_3 hk0) rfl 0 (by decide) f12 (fun _ h9 => h9) rfl dX3_execute_30 ?_
          refine lv_aload_n hx hb dX3_execute_33 rfl (lv_at hl 0 rfl) ?_
          refine va_get (D := D) (ci := 3) (v := .ref (ad (a0 + 5))) (C := RX3) (T := TX3) (N := 9) hx hb hts iX3 hown hK.1 hP a0 (gW_3 hk0) rfl 1 (by decide) f21 (fun _ h9 => h9) rfl dX3_execute_34 ?_
          refine va_get (D := D) (ci := 1) (v := .int (v (a0 + 5) 3)) (C := RX1) (T := TX1) (N := 8) hx hb hts iX1 hown hK.1 hP (a0 + 5) (gW_1 (kd_3_5 hk0)) rfl 3 (by decide) f90 (fun _ h9 => h9) rfl dX3_execute_37 ?_
          refine lv_iload hx hb dX3_execute_40 (lv_at hl 4 rfl) ?_
          refine lv_iload_n hx hb dX3_execute_42 rfl (lv_at hl 2 rfl) ?_
          refine g_bind hs (fun q_6 hq_6 hs => ?_)
          refine gCV_i (As := [.int (v (a0 + 5) 3), .int w5, .int w3]) (rest := []) ⟨hx, hb, hml, hown, hts⟩ (cX4_apply_c l D cy ad tL z0 hI n v u (a0 + 1) (v (a0 + 5) 3) w5 w3 q_6.1 q_6.2 (kd_3_1 hk0) hq_6) (cwV 3 hts gX3_execute_X4_apply rfl rfl rfl (by decide +kernel) ⟨Nat.le_of_ble_eq_true rfl, Nat.le_of_ble_eq_true rfl⟩) hK hP hS (va_recv hK.1 hP (ci := 4) (q0 := a0 + 1) rfl (gW_4 (kd_3_1 hk0))) hl.1 rfl rfl (Nat.le_of_ble_eq_true rfl) dX3_execute_43 ⟨Nat.zero_le _, Nat.zero_le _⟩ (fun H locs hP hS => ?_)
          refine lv_if_eq (tgt := 52) hx hb dX3_execute_46 (by decide) (fun hc => ?_) (fun hc => ?_)
          · have hs := g_t hs hc
            refine lv_iinc (v := w5 + 1) (lv' := [(5, .int (w5 + 1)), (0, .ref (ad a0)), (1, .int w1), (3, .int w3), (4, .int w4)]) hx hb dX3_execute_52 hl (k := 4) rfl rfl (by decide) rfl (fun ls hl => ?_)
            refine lv_goto (tgt := 13) hx hb dX3_execute_55 (by decide) ?_
            exact ih q_6.2 w1 w3 w4 (w5 + 1) _ _ _ hP hS (lv_sub hl [1, 2, 3, 4, 0] rfl) hs
          · have hs := g_f hs hc
            refine lv_iinc (v := w4 + 1) (lv' := [(4, .int (w4 + 1)), (0, .ref (ad a0)), (1, .int w1), (3, .int w3), (5, .int w5)]) hx hb dX3_execute_49 hl (k := 3) rfl rfl (by decide) rfl (fun ls hl => ?_)
            refine lv_iinc (v := w5 + 1) (lv' := [(5, .int (w5 + 1)), (4, .int (w4 + 1)), (0, .ref (ad a0)), (1, .int w1), (3, .int w3)]) hx hb dX3_execute_52 hl (k := 4) rfl rfl (by decide) rfl (fun ls hl => ?_)
            refine lv_goto (tgt := 13) hx hb dX3_execute_55 (by decide) ?_
            exact ih q_6.2 w1 w3 (w4 + 1) (w5 + 1) _ _ _ hP hS (lv_sub hl [2, 3, 4, 1, 0] rfl) hs
  unfold sX3_execute at hs
  refine lv_iconst (v := 5) hx hb dX3_execute_0 (by decide) ?_
  refine lv_iload_n hx hb dX3_execute_1 rfl (lv_at hl 2 rfl) ?_
  refine g_bind hs (fun q_1 hq_1 hs => ?_)
  refine gCS_i (As := [.int x2]) (rest := [.int 5]) ⟨hx, hb, hml, hown, hts⟩ (cX3_firstOf_c l D cy ad tL z0 hI n v u x2 q_1 hq_1) (va_cwS 1 hts gX3_execute_X3_firstOf rfl rfl rfl (by decide +kernel) ⟨Nat.le_of_ble_eq_true rfl, Nat.le_of_ble_eq_true rfl⟩) hK hP hS hl.1 rfl rfl (Nat.le_of_ble_eq_true rfl) dX3_execute_2 ⟨Nat.zero_le _, Nat.zero_le _⟩ (fun H locs hP hS => ?_)
  refine lv_iadd hx hb dX3_execute_5 ?_
  refine lv_istore_n (lv' := [(3, .int (5 + q_1)), (0, .ref (ad a0)), (1, .int x1), (2, .int x2)]) hx hb dX3_execute_6 rfl hl (by decide) rfl (fun ls hl => ?_)
  refine lv_iconst (v := 0) hx hb dX3_execute_7 (by decide) ?_
  refine lv_istore (lv' := [(4, .int 0), (3, .int (5 + q_1)), (0, .ref (ad a0)), (1, .int x1), (2, .int x2)]) hx hb dX3_execute_8 hl (by decide) rfl (fun ls hl => ?_)
  refine lv_iconst (v := 0) hx hb dX3_execute_10 (by decide) ?_
  refine lv_istore (lv' := [(5, .int 0), (4, .int 0), (3, .int (5 + q_1)), (0, .ref (ad a0)), (1, .int x1), (2, .int x2)]) hx hb dX3_execute_11 hl (by decide) rfl (fun ls hl => ?_)
  exact hL_13 n v x1 (5 + q_1) 0 0 _ _ _ hP hS (lv_sub hl [3, 4, 2, 1, 0] rfl) hs
set_option maxHeartbeats 4000000 in
set_option maxRecDepth 100000 in
theorem cX3_carryOut_c (l : Launch) (D : va_G) (cy : Nat → ClassId) (ad : Nat → Nat) (tL z0 : Nat) (hI : gI z0 ad) (n : Nat) (v : gV) (u : Int64) (a0 : Nat) (r0 : Int32) (v1 : gV) (hk0 : kd a0 = 3) (hs : sX3_carryOut n v a0 = some (r0, v1)) : Met l yX3_carryOut wsX3_carryOut ({ frames := 4, cells := 0, slots := 0, locals := 96 } : Room) (gPc D cy ad tL z0 v u [.ref (ad a0)]) (gQi D cy ad tL z0 v1 u r0) 0 0 (gA z0) := by
  refine Met.ofW (cc := cX3_carryOut) (maxL := 4) (ret := (some .int)) (by decide) rfl ?_
  intro p e s m args below meth c s₁ B hml hv
  obtain ⟨rfl, hB0⟩ := hv
  have hP : va_P D vwCl (gW cy ad v u) s.heap := hB0.1
  have hK : gK D cy tL z0 s s.heap := hB0.2
  have hx := B.exec
  have hb := B.bytes
  have hr := B.returns
  have hts := atoms_spec (ws := wsX3_carryOut) B.pre
  have hown : s.vm.findClass RX3 = some m.cls := findClass_of_methodNamed B.named
  have hlocks := B.notSynchronized
  have hS : va_S (gA z0) s.heap s.heap [] := va_S.rf
  have hl := lv_entry ([.ref (ad a0)]) (n := 4) (Nat.le_of_ble_eq_true rfl)
  rw [lg_entry_eq]
  generalize (lg_sl ([.ref (ad a0)]) ++ List.replicate (4 - (lg_sl ([.ref (ad a0)])).length) Slot.unset).toArray = ls at hl ⊢
  have hl : lv_has ls 4 [(0, .ref (ad a0))] := hl
  have iX3 := (show ∀ w ∈ u_ws RX3 TX3 9, w ∈ wsX3_carryOut by decide +kernel)
  have f21 := hts (.fieldLink RX3 21 "AdventureParser$State" "command" "LAdventureParser$Command;") (by decide +kernel)
  have iX1 := (show ∀ w ∈ u_ws RX1 TX1 8, w ∈ wsX3_carryOut by decide +kernel)
  have f90 := hts (.fieldLink RX3 90 "AdventureParser$Command" "verb" "I") (by decide +kernel)
  have f12 := hts (.fieldLink RX3 12 "AdventureParser$State" "world" "LAdventureParser$World;") (by decide +kernel)
  clear hB0
  have hJ_76 : ∀ (v : gV) (w1 : Int32) (w2 : Int32) (H : Heap) (locs : List Loc) (ls : Array Slot), va_P D vwCl (gW cy ad v u) H → va_S (gA z0) s.heap H locs → lv_has ls 4 [(0, .ref (ad a0)), (1, .int w1), (2, .int w2)] → sX3_carryOut_76 n a0 v w1 w2 = some (r0, v1) → W p l e (headSpec wsX3_carryOut ({ frames := 4, cells := 0, slots := 0, locals := 96 } : Room)).room s m ([.ref (ad a0)] : List Value).toArray below meth c H locs 0 0 (MQ below (gQi D cy ad tL z0 v1 u r0) ([.ref (ad a0)] : List Value).toArray s 0 0 (gA z0)) (F0 m 76 ls []) := by
    intro v w1 w2 H locs ls hP hS hl hs
    unfold sX3_carryOut_76 at hs
    refine lv_iload_n hx hb dX3_carryOut_76 rfl (lv_at hl 2 rfl) ?_
    refine lv_if_ge (tgt := 82) hx hb dX3_carryOut_77 (by decide) (fun hc => ?_) (fun hc => ?_)
    · have hs := g_t hs hc
      refine lv_aload_n hx hb dX3_carryOut_82 rfl (lv_at hl 0 rfl) ?_
      refine lv_iload_n hx hb dX3_carryOut_83 rfl (lv_at hl 1 rfl) ?_
      refine lv_aload_n hx hb dX3_carryOut_84 rfl (lv_at hl 0 rfl) ?_
      refine va_get (D := D) (ci := 3) (v := .ref (ad (a0 + 1))) (C := RX3) (T := TX3) (N := 9) hx hb hts iX3 hown hK.1 hP a0 (gW_3 hk0) rfl 0 (by decide) f12 (fun _ h9 => h9) rfl dX3_carryOut_85 ?_
      refine lv_aload_n hx hb dX3_carryOut_88 rfl (lv_at hl 0 rfl) ?_
      refine va_get (D := D) (ci := 3) (v := .ref (ad (a0 + 5))) (C := RX3) (T := TX3) (N := 9) hx hb hts iX3 hown hK.1 hP a0 (gW_3 hk0) rfl 1 (by decide) f21 (fun _ h9 => h9) rfl dX3_carryOut_89 ?_
      refine va_get (D := D) (ci := 1) (v := .int (v (a0 + 5) 3)) (C := RX1) (T := TX1) (N := 8) hx hb hts iX1 hown hK.1 hP (a0 + 5) (gW_1 (kd_3_5 hk0)) rfl 3 (by decide) f90 (fun _ h9 => h9) rfl dX3_carryOut_92 ?_
      refine g_bind hs (fun q_2 hq_2 hs => ?_)
      refine gCV_i (As := [.int (v (a0 + 5) 3)]) (rest := [.int w1, .ref (ad a0)]) ⟨hx, hb, hml, hown, hts⟩ (cX4_suitableSet_c l D cy ad tL z0 hI n v u (a0 + 1) (v (a0 + 5) 3) q_2 (kd_3_1 hk0) hq_2) (cwV 1 hts gX3_carryOut_X4_suitableSet rfl rfl rfl (by decide +kernel) ⟨Nat.le_of_ble_eq_true rfl, Nat.le_of_ble_eq_true rfl⟩) hK hP hS (va_recv hK.1 hP (ci := 4) (q0 := a0 + 1) rfl (gW_4 (kd_3_1 hk0))) hl.1 rfl rfl (Nat.le_of_ble_eq_true rfl) dX3_carryOut_95 ⟨Nat.zero_le _, Nat.zero_le _⟩ (fun H locs hP hS => ?_)
      refine g_bind hs (fun q_3 hq_3 hs => ?_)
      refine gCV_i (As := [.int w1, .int q_2]) (rest := []) ⟨hx, hb, hml, hown, hts⟩ (cX3_resolveObjects_c l D cy ad tL z0 hI n v u a0 w1 q_2 q_3.1 q_3.2 hk0 hq_3) (cwV 2 hts gX3_carryOut_X3_resolveObjects rfl rfl rfl (by decide +kernel) ⟨Nat.le_of_ble_eq_true rfl, Nat.le_of_ble_eq_true rfl⟩) hK hP hS (va_recv hK.1 hP (ci := 3) (q0 := a0) rfl (gW_3 hk0)) hl.1 rfl rfl (Nat.le_of_ble_eq_true rfl) dX3_carryOut_98 ⟨Nat.zero_le _, Nat.zero_le _⟩ (fun H locs hP hS => ?_)
      refine lv_istore_n (lv' := [(3, .int q_3.1), (0, .ref (ad a0)), (1, .int w1), (2, .int w2)]) hx hb dX3_carryOut_101 rfl hl (by decide) rfl (fun ls hl => ?_)
      refine lv_iload_n hx hb dX3_carryOut_102 rfl (lv_at hl 0 rfl) ?_
      refine lv_if_ge (tgt := 110) hx hb dX3_carryOut_103 (by decide) (fun hc => ?_) (fun hc => ?_)
      · have hs := g_t hs hc
        refine lv_aload_n hx hb dX3_carryOut_110 rfl (lv_at hl 1 rfl) ?_
        refine lv_iload_n hx hb dX3_carryOut_111 rfl (lv_at hl 0 rfl) ?_
        refine lv_iload_n hx hb dX3_carryOut_112 rfl (lv_at hl 3 rfl) ?_
        refine g_bind hs (fun q_4 hq_4 hs => ?_)
        refine gCV_i (As := [.int q_3.1, .int w2]) (rest := []) ⟨hx, hb, hml, hown, hts⟩ (cX3_execute_c l D cy ad tL z0 hI n q_3.2 u a0 q_3.1 w2 q_4.1 q_4.2 hk0 hq_4) (cwV 2 hts gX3_carryOut_X3_execute rfl rfl rfl (by decide +kernel) ⟨Nat.le_of_ble_eq_true rfl, Nat.le_of_ble_eq_true rfl⟩) hK hP hS (va_recv hK.1 hP (ci := 3) (q0 := a0) rfl (gW_3 hk0)) hl.1 rfl rfl (Nat.le_of_ble_eq_true rfl) dX3_carryOut_113 ⟨Nat.zero_le _, Nat.zero_le _⟩ (fun H locs hP hS => ?_)
        exact gRet_i hx hb hr hlocks hK hP hS (g_some2 hs) dX3_carryOut_116
      · have hs := g_f hs hc
        refine lv_iload_n hx hb dX3_carryOut_106 rfl (lv_at hl 0 rfl) ?_
        refine lv_goto (tgt := 116) hx hb dX3_carryOut_107 (by decide) ?_
        exact gRet_i hx hb hr hlocks hK hP hS (g_some2 hs) dX3_carryOut_116
    · have hs := g_f hs hc
      refine lv_iload_n hx hb dX3_carryOut_80 rfl (lv_at hl 2 rfl) ?_
      exact gRet_i hx hb hr hlocks hK hP hS (g_some2 hs) dX3_carryOut_81
  unfold sX3_carryOut at hs
  refine lv_aload_n hx hb dX3_carryOut_0 rfl (lv_at hl 0 rfl) ?_
  refine va_get (D := D) (ci := 3) (v := .ref (ad (a0 + 5))) (C := RX3) (T := TX3) (N := 9) hx hb hts iX3 hown hK.1 hP a0 (gW_3 hk0) rfl 1 (by decide) f21 (fun _ h9 => h9) rfl dX3_carryOut_1 ?_
  refine va_get (D := D) (ci := 1) (v := .int (v (a0 + 5) 3)) (C := RX1) (T := TX1) (N := 8) hx hb hts iX1 hown hK.1 hP (a0 + 5) (gW_1 (kd_3_5 hk0)) rfl 3 (by decide) f90 (fun _ h9 => h9) rfl dX3_carryOut_4 ?_
  refine lv_iconst (v := 5) hx hb dX3_carryOut_7 (by decide) ?_
  refine lv_icmp_ne (tgt := 20) hx hb dX3_carryOut_8 (by decide) (fun hc => ?_) (fun hc => ?_)
  · have hs := g_f hs hc
    refine lv_aload_n hx hb dX3_carryOut_20 rfl (lv_at hl 0 rfl) ?_
    refine va_get (D := D) (ci := 3) (v := .ref (ad (a0 + 5))) (C := RX3) (T := TX3) (N := 9) hx hb hts iX3 hown hK.1 hP a0 (gW_3 hk0) rfl 1 (by decide) f21 (fun _ h9 => h9) rfl dX3_carryOut_21 ?_
    refine va_get (D := D) (ci := 1) (v := .int (v (a0 + 5) 3)) (C := RX1) (T := TX1) (N := 8) hx hb hts iX1 hown hK.1 hP (a0 + 5) (gW_1 (kd_3_5 hk0)) rfl 3 (by decide) f90 (fun _ h9 => h9) rfl dX3_carryOut_24 ?_
    refine lv_bipush (v := 6) hx hb dX3_carryOut_27 (by decide) ?_
    refine lv_icmp_ne (tgt := 41) hx hb dX3_carryOut_29 (by decide) (fun hc => ?_) (fun hc => ?_)
    · have hs := g_f hs hc
      refine lv_aload_n hx hb dX3_carryOut_41 rfl (lv_at hl 0 rfl) ?_
      refine va_get (D := D) (ci := 3) (v := .ref (ad (a0 + 1))) (C := RX3) (T := TX3) (N := 9) hx hb hts iX3 hown hK.1 hP a0 (gW_3 hk0) rfl 0 (by decide) f12 (fun _ h9 => h9) rfl dX3_carryOut_42 ?_
      refine g_bind hs (fun q_1 hq_1 hs => ?_)
      refine gCV_i (As := []) (rest := []) ⟨hx, hb, hml, hown, hts⟩ (cX4_visibleSet_c l D cy ad tL z0 hI n v u (a0 + 1) q_1 (kd_3_1 hk0) hq_1) (cwV 0 hts gX3_carryOut_X4_visibleSet rfl rfl rfl (by decide +kernel) ⟨Nat.le_of_ble_eq_true rfl, Nat.le_of_ble_eq_true rfl⟩) hK hP hS (va_recv hK.1 hP (ci := 4) (q0 := a0 + 1) rfl (gW_4 (kd_3_1 hk0))) hl.1 rfl rfl (Nat.le_of_ble_eq_true rfl) dX3_carryOut_45 ⟨Nat.zero_le _, Nat.zero_le _⟩ (fun H locs hP hS => ?_)
      refine lv_istore_n (lv' := [(1, .int q_1), (0, .ref (ad a0))]) hx hb dX3_carryOut_48 rfl hl (by decide) rfl (fun ls hl => ?_)
      refine lv_iconst (v := 0) hx hb dX3_carryOut_49 (by decide) ?_
      refine lv_istore_n (lv' := [(2, .int 0), (1, .int q_1), (0, .ref (ad a0))]) hx hb dX3_carryOut_50 rfl hl (by decide) rfl (fun ls hl => ?_)
      refine lv_aload_n hx hb dX3_carryOut_51 rfl (lv_at hl 2 rfl) ?_
      refine va_get (D := D) (ci := 3) (v := .ref (ad (a0 + 5))) (C := RX3) (T := TX3) (N := 9) hx hb hts iX3 hown hK.1 hP a0 (gW_3 hk0) rfl 1 (by decide) f21 (fun _ h9 => h9) rfl dX3_carryOut_52 ?_
      refine va_get (D := D) (ci := 1) (v := .int (v (a0 + 5) 3)) (C := RX1) (T := TX1) (N := 8) hx hb hts iX1 hown hK.1 hP (a0 + 5) (gW_1 (kd_3_5 hk0)) rfl 3 (by decide) f90 (fun _ h9 => h9) rfl dX3_carryOut_55 ?_
      refine lv_iconst (v := 2) hx hb dX3_carryOut_58 (by decide) ?_
      refine lv_icmp_ne (tgt := 76) hx hb dX3_carryOut_59 (by decide) (fun hc => ?_) (fun hc => ?_)
      · have hs := g_f hs hc
        exact hJ_76 v q_1 0 _ _ _ hP hS (lv_sub hl [2, 1, 0] rfl) hs
      · have hs := g_t hs hc
        refine lv_aload_n hx hb dX3_carryOut_62 rfl (lv_at hl 2 rfl) ?_
        refine lv_iload_n hx hb dX3_carryOut_63 rfl (lv_at hl 1 rfl) ?_
        refine lv_aload_n hx hb dX3_carryOut_64 rfl (lv_at hl 2 rfl) ?_
        refine va_get (D := D) (ci := 3) (v := .ref (ad (a0 + 1))) (C := RX3) (T := TX3) (N := 9) hx hb hts iX3 hown hK.1 hP a0 (gW_3 hk0) rfl 0 (by decide) f12 (fun _ h9 => h9) rfl dX3_carryOut_65 ?_
        refine lv_iconst (v := 4) hx hb dX3_carryOut_68 (by decide) ?_
        refine g_bind hs (fun q_5 hq_5 hs => ?_)
        refine gCV_i (As := [.int 4]) (rest := [.int q_1, .ref (ad a0)]) ⟨hx, hb, hml, hown, hts⟩ (cX4_suitableSet_c l D cy ad tL z0 hI n v u (a0 + 1) 4 q_5 (kd_3_1 hk0) hq_5) (cwV 1 hts gX3_carryOut_X4_suitableSet rfl rfl rfl (by decide +kernel) ⟨Nat.le_of_ble_eq_true rfl, Nat.le_of_ble_eq_true rfl⟩) hK hP hS (va_recv hK.1 hP (ci := 4) (q0 := a0 + 1) rfl (gW_4 (kd_3_1 hk0))) hl.1 rfl rfl (Nat.le_of_ble_eq_true rfl) dX3_carryOut_69 ⟨Nat.zero_le _, Nat.zero_le _⟩ (fun H locs hP hS => ?_)
        refine g_bind hs (fun q_6 hq_6 hs => ?_)
        refine gCV_i (As := [.int q_1, .int q_5]) (rest := []) ⟨hx, hb, hml, hown, hts⟩ (cX3_resolveTarget_c l D cy ad tL z0 hI n v u a0 q_1 q_5 q_6.1 q_6.2 hk0 hq_6) (cwV 2 hts gX3_carryOut_X3_resolveTarget rfl rfl rfl (by decide +kernel) ⟨Nat.le_of_ble_eq_true rfl, Nat.le_of_ble_eq_true rfl⟩) hK hP hS (va_recv hK.1 hP (ci := 3) (q0 := a0) rfl (gW_3 hk0)) hl.1 rfl rfl (Nat.le_of_ble_eq_true rfl) dX3_carryOut_72 ⟨Nat.zero_le _, Nat.zero_le _⟩ (fun H locs hP hS => ?_)
        refine lv_istore_n (lv' := [(2, .int q_6.1), (1, .int q_1), (0, .ref (ad a0))]) hx hb dX3_carryOut_75 rfl hl (by decide) rfl (fun ls hl => ?_)
        exact hJ_76 q_6.2 q_1 q_6.1 _ _ _ hP hS (lv_sub hl [2, 1, 0] rfl) hs
    · have hs := g_t hs hc
      refine lv_aload_n hx hb dX3_carryOut_32 rfl (lv_at hl 0 rfl) ?_
      refine va_get (D := D) (ci := 3) (v := .ref (ad (a0 + 1))) (C := RX3) (T := TX3) (N := 9) hx hb hts iX3 hown hK.1 hP a0 (gW_3 hk0) rfl 0 (by decide) f12 (fun _ h9 => h9) rfl dX3_carryOut_33 ?_
      refine lv_iconst (v := (-1)) hx hb dX3_carryOut_36 (by decide) ?_
      refine g_bind hs (fun q_7 hq_7 hs => ?_)
      refine gCV_i (As := [.int ((-1))]) (rest := []) ⟨hx, hb, hml, hown, hts⟩ (cX4_walk_c l D cy ad tL z0 hI v u (a0 + 1) ((-1)) q_7.1 q_7.2 (kd_3_1 hk0) hq_7) (cwV 1 hts gX3_carryOut_X4_walk rfl rfl rfl (by decide +kernel) ⟨Nat.le_of_ble_eq_true rfl, Nat.le_of_ble_eq_true rfl⟩) hK hP hS (va_recv hK.1 hP (ci := 4) (q0 := a0 + 1) rfl (gW_4 (kd_3_1 hk0))) hl.1 rfl rfl (Nat.le_of_ble_eq_true rfl) dX3_carryOut_37 ⟨Nat.zero_le _, Nat.zero_le _⟩ (fun H locs hP hS => ?_)
      exact gRet_i hx hb hr hlocks hK hP hS (g_some2 hs) dX3_carryOut_40
  · have hs := g_t hs hc
    refine lv_aload_n hx hb dX3_carryOut_11 rfl (lv_at hl 0 rfl) ?_
    refine va_get (D := D) (ci := 3) (v := .ref (ad (a0 + 1))) (C := RX3) (T := TX3) (N := 9) hx hb hts iX3 hown hK.1 hP a0 (gW_3 hk0) rfl 0 (by decide) f12 (fun _ h9 => h9) rfl dX3_carryOut_12 ?_
    refine lv_iconst (v := 1) hx hb dX3_carryOut_15 (by decide) ?_
    refine g_bind hs (fun q_8 hq_8 hs => ?_)
    refine gCV_i (As := [.int 1]) (rest := []) ⟨hx, hb, hml, hown, hts⟩ (cX4_walk_c l D cy ad tL z0 hI v u (a0 + 1) 1 q_8.1 q_8.2 (kd_3_1 hk0) hq_8) (cwV 1 hts gX3_carryOut_X4_walk rfl rfl rfl (by decide +kernel) ⟨Nat.le_of_ble_eq_true rfl, Nat.le_of_ble_eq_true rfl⟩) hK hP hS (va_recv hK.1 hP (ci := 4) (q0 := a0 + 1) rfl (gW_4 (kd_3_1 hk0))) hl.1 rfl rfl (Nat.le_of_ble_eq_true rfl) dX3_carryOut_16 ⟨Nat.zero_le _, Nat.zero_le _⟩ (fun H locs hP hS => ?_)
    exact gRet_i hx hb hr hlocks hK hP hS (g_some2 hs) dX3_carryOut_19
set_option maxHeartbeats 4000000 in
set_option maxRecDepth 100000 in
theorem cX3_countResult_c (l : Launch) (D : va_G) (cy : Nat → ClassId) (ad : Nat → Nat) (tL z0 : Nat) (hI : gI z0 ad) (v : gV) (u : Int64) (a0 : Nat) (x1 : Int32) (v1 : gV) (hk0 : kd a0 = 3) (hs : sX3_countResult v a0 x1 = some v1) : Met l yX3_countResult wsX3_countResult ({ frames := 0, cells := 0, slots := 0, locals := 0 } : Room) (gPc D cy ad tL z0 v u [.ref (ad a0), .int x1]) (gQv D cy ad tL z0 v1 u) 0 0 (gA z0) := by
  refine Met.ofW (cc := cX3_countResult) (maxL := 2) (ret := none) (by decide) rfl ?_
  intro p e s m args below meth c s₁ B hml hv
  obtain ⟨rfl, hB0⟩ := hv
  have hP : va_P D vwCl (gW cy ad v u) s.heap := hB0.1
  have hK : gK D cy tL z0 s s.heap := hB0.2
  have hx := B.exec
  have hb := B.bytes
  have hr := B.returns
  have hts := atoms_spec (ws := wsX3_countResult) B.pre
  have hown : s.vm.findClass RX3 = some m.cls := findClass_of_methodNamed B.named
  have hlocks := B.notSynchronized
  have hS : va_S (gA z0) s.heap s.heap [] := va_S.rf
  have hl := lv_entry ([.ref (ad a0), .int x1]) (n := 2) (Nat.le_of_ble_eq_true rfl)
  rw [lg_entry_eq]
  generalize (lg_sl ([.ref (ad a0), .int x1]) ++ List.replicate (2 - (lg_sl ([.ref (ad a0), .int x1])).length) Slot.unset).toArray = ls at hl ⊢
  have hl : lv_has ls 2 [(0, .ref (ad a0)), (1, .int x1)] := hl
  have iX3 := (show ∀ w ∈ u_ws RX3 TX3 9, w ∈ wsX3_countResult by decide +kernel)
  have f45 := hts (.fieldLink RX3 45 "AdventureParser$State" "failed" "I") (by decide +kernel)
  have f48 := hts (.fieldLink RX3 48 "AdventureParser$State" "asked" "I") (by decide +kernel)
  have f42 := hts (.fieldLink RX3 42 "AdventureParser$State" "executed" "I") (by decide +kernel)
  clear hB0
  unfold sX3_countResult at hs
  refine lv_iload_n hx hb dX3_countResult_0 rfl (lv_at hl 1 rfl) ?_
  refine lv_if_lt (tgt := 17) hx hb dX3_countResult_1 (by decide) (fun hc => ?_) (fun hc => ?_)
  · have hs := g_t hs hc
    refine lv_iload_n hx hb dX3_countResult_17 rfl (lv_at hl 1 rfl) ?_
    refine lv_iconst (v := (-1)) hx hb dX3_countResult_18 (by decide) ?_
    refine lv_icmp_ne (tgt := 35) hx hb dX3_countResult_19 (by decide) (fun hc => ?_) (fun hc => ?_)
    · have hs := g_f hs hc
      refine lv_aload_n hx hb dX3_countResult_35 rfl (lv_at hl 0 rfl) ?_
      refine lv_dup hx hb dX3_countResult_36 rfl ?_
      refine va_get (D := D) (ci := 3) (v := .int (v a0 5)) (C := RX3) (T := TX3) (N := 9) hx hb hts iX3 hown hK.1 hP a0 (gW_3 hk0) rfl 5 (by decide) f45 (fun _ h9 => h9) rfl dX3_countResult_37 ?_
      refine lv_iconst (v := 1) hx hb dX3_countResult_40 (by decide) ?_
      refine lv_iadd hx hb dX3_countResult_41 ?_
      refine va_put (D := D) (ci := 3) (v := .int ((v a0 5) + 1)) (ty := .int) (C := RX3) (T := TX3) (N := 9) hx hb hts iX3 tyX3 tyX3_ok nmX3 hown hK.1 hP (gD hI) hS a0 (gW_3 hk0) rfl 5 (by decide) f45 (fun _ h9 => h9) rfl (by decide +kernel) rfl rfl (Nat.le_of_ble_eq_true rfl) dX3_countResult_42 (fun H locs hP _ hS => ?_)
      refine g_let hs (fun v_1 ev_1 hs => ?_)
      have hP : va_P D vwCl (gW cy ad v_1 u) H := gPset ((gS_3_5 hk0 ((v a0 5) + 1)).trans (congrArg (fun z => gW cy ad z u) ev_1.symm)) hP
      exact gRet_v hx hb hr hlocks hK hP hS (g_some hs) dX3_countResult_45
    · have hs := g_t hs hc
      refine lv_aload_n hx hb dX3_countResult_22 rfl (lv_at hl 0 rfl) ?_
      refine lv_dup hx hb dX3_countResult_23 rfl ?_
      refine va_get (D := D) (ci := 3) (v := .int (v a0 6)) (C := RX3) (T := TX3) (N := 9) hx hb hts iX3 hown hK.1 hP a0 (gW_3 hk0) rfl 6 (by decide) f48 (fun _ h9 => h9) rfl dX3_countResult_24 ?_
      refine lv_iconst (v := 1) hx hb dX3_countResult_27 (by decide) ?_
      refine lv_iadd hx hb dX3_countResult_28 ?_
      refine va_put (D := D) (ci := 3) (v := .int ((v a0 6) + 1)) (ty := .int) (C := RX3) (T := TX3) (N := 9) hx hb hts iX3 tyX3 tyX3_ok nmX3 hown hK.1 hP (gD hI) hS a0 (gW_3 hk0) rfl 6 (by decide) f48 (fun _ h9 => h9) rfl (by decide +kernel) rfl rfl (Nat.le_of_ble_eq_true rfl) dX3_countResult_29 (fun H locs hP _ hS => ?_)
      refine g_let hs (fun v_2 ev_2 hs => ?_)
      have hP : va_P D vwCl (gW cy ad v_2 u) H := gPset ((gS_3_6 hk0 ((v a0 6) + 1)).trans (congrArg (fun z => gW cy ad z u) ev_2.symm)) hP
      refine lv_goto (tgt := 45) hx hb dX3_countResult_32 (by decide) ?_
      exact gRet_v hx hb hr hlocks hK hP hS (g_some hs) dX3_countResult_45
  · have hs := g_f hs hc
    refine lv_aload_n hx hb dX3_countResult_4 rfl (lv_at hl 0 rfl) ?_
    refine lv_dup hx hb dX3_countResult_5 rfl ?_
    refine va_get (D := D) (ci := 3) (v := .int (v a0 4)) (C := RX3) (T := TX3) (N := 9) hx hb hts iX3 hown hK.1 hP a0 (gW_3 hk0) rfl 4 (by decide) f42 (fun _ h9 => h9) rfl dX3_countResult_6 ?_
    refine lv_iconst (v := 1) hx hb dX3_countResult_9 (by decide) ?_
    refine lv_iadd hx hb dX3_countResult_10 ?_
    refine va_put (D := D) (ci := 3) (v := .int ((v a0 4) + 1)) (ty := .int) (C := RX3) (T := TX3) (N := 9) hx hb hts iX3 tyX3 tyX3_ok nmX3 hown hK.1 hP (gD hI) hS a0 (gW_3 hk0) rfl 4 (by decide) f42 (fun _ h9 => h9) rfl (by decide +kernel) rfl rfl (Nat.le_of_ble_eq_true rfl) dX3_countResult_11 (fun H locs hP _ hS => ?_)
    refine g_let hs (fun v_3 ev_3 hs => ?_)
    have hP : va_P D vwCl (gW cy ad v_3 u) H := gPset ((gS_3_4 hk0 ((v a0 4) + 1)).trans (congrArg (fun z => gW cy ad z u) ev_3.symm)) hP
    refine lv_goto (tgt := 45) hx hb dX3_countResult_14 (by decide) ?_
    exact gRet_v hx hb hr hlocks hK hP hS (g_some hs) dX3_countResult_45
set_option maxHeartbeats 4000000 in
set_option maxRecDepth 100000 in
theorem cX3_accept_c (l : Launch) (D : va_G) (cy : Nat → ClassId) (ad : Nat → Nat) (tL z0 : Nat) (hI : gI z0 ad) (n : Nat) (v : gV) (u : Int64) (a0 : Nat) (a1 : Nat) (r0 : Int32) (v1 : gV) (hk0 : kd a0 = 3) (hk1 : kd a1 = 1) (hs : sX3_accept n v a0 a1 = some (r0, v1)) : Met l yX3_accept wsX3_accept ({ frames := 5, cells := 0, slots := 0, locals := 119 } : Room) (gPc D cy ad tL z0 v u [.ref (ad a0), .ref (ad a1)]) (gQi D cy ad tL z0 v1 u r0) 0 0 (gA z0) := by
  refine Met.ofW (cc := cX3_accept) (maxL := 3) (ret := (some .int)) (by decide) rfl ?_
  intro p e s m args below meth c s₁ B hml hv
  obtain ⟨rfl, hB0⟩ := hv
  have hP : va_P D vwCl (gW cy ad v u) s.heap := hB0.1
  have hK : gK D cy tL z0 s s.heap := hB0.2
  have hx := B.exec
  have hb := B.bytes
  have hr := B.returns
  have hts := atoms_spec (ws := wsX3_accept) B.pre
  have hown : s.vm.findClass RX3 = some m.cls := findClass_of_methodNamed B.named
  have hlocks := B.notSynchronized
  have hS : va_S (gA z0) s.heap s.heap [] := va_S.rf
  have hl := lv_entry ([.ref (ad a0), .ref (ad a1)]) (n := 3) (Nat.le_of_ble_eq_true rfl)
  rw [lg_entry_eq]
  generalize (lg_sl ([.ref (ad a0), .ref (ad a1)]) ++ List.replicate (3 - (lg_sl ([.ref (ad a0), .ref (ad a1)])).length) Slot.unset).toArray = ls at hl ⊢
  have hl : lv_has ls 3 [(0, .ref (ad a0)), (1, .ref (ad a1))] := hl
  have iX3 := (show ∀ w ∈ u_ws RX3 TX3 9, w ∈ wsX3_accept by decide +kernel)
  have f21 := hts (.fieldLink RX3 21 "AdventureParser$State" "command" "LAdventureParser$Command;") (by decide +kernel)
  have f51 := hts (.fieldLink RX3 51 "AdventureParser$State" "candidates" "I") (by decide +kernel)
  have f12 := hts (.fieldLink RX3 12 "AdventureParser$State" "world" "LAdventureParser$World;") (by decide +kernel)
  have iX1 := (show ∀ w ∈ u_ws RX1 TX1 8, w ∈ wsX3_accept by decide +kernel)
  have f58 := hts (.fieldLink RX3 58 "AdventureParser$Command" "nouns" "[I") (by decide +kernel)
  have f62 := hts (.fieldLink RX3 62 "AdventureParser$Command" "adjectives" "[I") (by decide +kernel)
  have f29 := hts (.fieldLink RX3 29 "AdventureParser$State" "questionSlot" "I") (by decide +kernel)
  clear hB0
  have hJ_66 : ∀ (v : gV)  (H : Heap) (locs : List Loc) (ls : Array Slot), va_P D vwCl (gW cy ad v u) H → va_S (gA z0) s.heap H locs → lv_has ls 3 [(0, .ref (ad a0))] → sX3_accept_66 n a0 a1 v = some (r0, v1) → W p l e (headSpec wsX3_accept ({ frames := 5, cells := 0, slots := 0, locals := 119 } : Room)).room s m ([.ref (ad a0), .ref (ad a1)] : List Value).toArray below meth c H locs 0 0 (MQ below (gQi D cy ad tL z0 v1 u r0) ([.ref (ad a0), .ref (ad a1)] : List Value).toArray s 0 0 (gA z0)) (F0 m 66 ls []) := by
    intro v H locs ls hP hS hl hs
    unfold sX3_accept_66 at hs
    refine lv_aload_n hx hb dX3_accept_66 rfl (lv_at hl 0 rfl) ?_
    refine g_bind hs (fun q_3 hq_3 hs => ?_)
    refine gCV_v (As := []) (rest := []) ⟨hx, hb, hml, hown, hts⟩ (cX3_closeQuestion_c l D cy ad tL z0 hI v u a0 q_3 hk0 hq_3) (cwV 0 hts gX3_accept_X3_closeQuestion rfl rfl rfl (by decide +kernel) ⟨Nat.le_of_ble_eq_true rfl, Nat.le_of_ble_eq_true rfl⟩) hK hP hS (va_recv hK.1 hP (ci := 3) (q0 := a0) rfl (gW_3 hk0)) hl.1 rfl rfl (Nat.le_of_ble_eq_true rfl) dX3_accept_67 ⟨Nat.zero_le _, Nat.zero_le _⟩ (fun H locs hP hS => ?_)
    refine lv_aload_n hx hb dX3_accept_70 rfl (lv_at hl 0 rfl) ?_
    refine g_bind hs (fun q_4 hq_4 hs => ?_)
    refine gCV_i (As := []) (rest := []) ⟨hx, hb, hml, hown, hts⟩ (cX3_carryOut_c l D cy ad tL z0 hI n q_3 u a0 q_4.1 q_4.2 hk0 hq_4) (cwV 0 hts gX3_accept_X3_carryOut rfl rfl rfl (by decide +kernel) ⟨Nat.le_of_ble_eq_true rfl, Nat.le_of_ble_eq_true rfl⟩) hK hP hS (va_recv hK.1 hP (ci := 3) (q0 := a0) rfl (gW_3 hk0)) hl.1 rfl rfl (Nat.le_of_ble_eq_true rfl) dX3_accept_71 ⟨Nat.zero_le _, Nat.zero_le _⟩ (fun H locs hP hS => ?_)
    refine lv_istore_n (lv' := [(2, .int q_4.1), (0, .ref (ad a0))]) hx hb dX3_accept_74 rfl hl (by decide) rfl (fun ls hl => ?_)
    refine lv_aload_n hx hb dX3_accept_75 rfl (lv_at hl 1 rfl) ?_
    refine lv_iload_n hx hb dX3_accept_76 rfl (lv_at hl 0 rfl) ?_
    refine g_bind hs (fun q_5 hq_5 hs => ?_)
    refine gCV_v (As := [.int q_4.1]) (rest := []) ⟨hx, hb, hml, hown, hts⟩ (cX3_countResult_c l D cy ad tL z0 hI q_4.2 u a0 q_4.1 q_5 hk0 hq_5) (cwV 1 hts gX3_accept_X3_countResult rfl rfl rfl (by decide +kernel) ⟨Nat.le_of_ble_eq_true rfl, Nat.le_of_ble_eq_true rfl⟩) hK hP hS (va_recv hK.1 hP (ci := 3) (q0 := a0) rfl (gW_3 hk0)) hl.1 rfl rfl (Nat.le_of_ble_eq_true rfl) dX3_accept_77 ⟨Nat.zero_le _, Nat.zero_le _⟩ (fun H locs hP hS => ?_)
    refine lv_iload_n hx hb dX3_accept_80 rfl (lv_at hl 0 rfl) ?_
    exact gRet_i hx hb hr hlocks hK hP hS (g_some2 hs) dX3_accept_81
  unfold sX3_accept at hs
  refine lv_aload_n hx hb dX3_accept_0 rfl (lv_at hl 1 rfl) ?_
  refine g_bind hs (fun q_1 hq_1 hs => ?_)
  refine gCV_i (As := []) (rest := []) ⟨hx, hb, hml, hown, hts⟩ (cX1_isAnswer_c l D cy ad tL z0 hI v u a1 q_1 hk1 hq_1) (cwV 0 hts gX3_accept_X1_isAnswer rfl rfl rfl (by decide +kernel) ⟨Nat.le_of_ble_eq_true rfl, Nat.le_of_ble_eq_true rfl⟩) hK hP hS (va_recv hK.1 hP (ci := 1) (q0 := a1) rfl (gW_1 hk1)) hl.1 rfl rfl (Nat.le_of_ble_eq_true rfl) dX3_accept_1 ⟨Nat.zero_le _, Nat.zero_le _⟩ (fun H locs hP hS => ?_)
  refine lv_if_eq (tgt := 58) hx hb dX3_accept_4 (by decide) (fun hc => ?_) (fun hc => ?_)
  · have hs := g_t hs hc
    refine lv_aload_n hx hb dX3_accept_58 rfl (lv_at hl 0 rfl) ?_
    refine va_get (D := D) (ci := 3) (v := .ref (ad (a0 + 5))) (C := RX3) (T := TX3) (N := 9) hx hb hts iX3 hown hK.1 hP a0 (gW_3 hk0) rfl 1 (by decide) f21 (fun _ h9 => h9) rfl dX3_accept_59 ?_
    refine lv_aload_n hx hb dX3_accept_62 rfl (lv_at hl 1 rfl) ?_
    refine g_bind hs (fun q_2 hq_2 hs => ?_)
    refine gCV_v (As := [.ref (ad a1)]) (rest := []) ⟨hx, hb, hml, hown, hts⟩ (cX1_copyFrom_c l D cy ad tL z0 hI n v u (a0 + 5) a1 q_2 (kd_3_5 hk0) hk1 hq_2) (cwV 1 hts gX3_accept_X1_copyFrom rfl rfl rfl (by decide +kernel) ⟨Nat.le_of_ble_eq_true rfl, Nat.le_of_ble_eq_true rfl⟩) hK hP hS (va_recv hK.1 hP (ci := 1) (q0 := a0 + 5) rfl (gW_1 (kd_3_5 hk0))) hl.1 rfl rfl (Nat.le_of_ble_eq_true rfl) dX3_accept_63 ⟨Nat.zero_le _, Nat.zero_le _⟩ (fun H locs hP hS => ?_)
    exact hJ_66 q_2 _ _ _ hP hS (lv_sub hl [0] rfl) hs
  · have hs := g_f hs hc
    refine lv_aload_n hx hb dX3_accept_7 rfl (lv_at hl 0 rfl) ?_
    refine va_get (D := D) (ci := 3) (v := .int (v a0 7)) (C := RX3) (T := TX3) (N := 9) hx hb hts iX3 hown hK.1 hP a0 (gW_3 hk0) rfl 7 (by decide) f51 (fun _ h9 => h9) rfl dX3_accept_8 ?_
    refine lv_aload_n hx hb dX3_accept_11 rfl (lv_at hl 0 rfl) ?_
    refine va_get (D := D) (ci := 3) (v := .ref (ad (a0 + 1))) (C := RX3) (T := TX3) (N := 9) hx hb hts iX3 hown hK.1 hP a0 (gW_3 hk0) rfl 0 (by decide) f12 (fun _ h9 => h9) rfl dX3_accept_12 ?_
    refine lv_aload_n hx hb dX3_accept_15 rfl (lv_at hl 1 rfl) ?_
    refine va_get (D := D) (ci := 1) (v := .ref (ad (a1 + 1))) (C := RX1) (T := TX1) (N := 8) hx hb hts iX1 hown hK.1 hP a1 (gW_1 hk1) rfl 0 (by decide) f58 (fun _ h9 => h9) rfl dX3_accept_16 ?_
    refine lv_iconst (v := 0) hx hb dX3_accept_19 (by decide) ?_
    refine va_iald (i := 0) hx hb hK.1 hP (a1 + 1) 0 (gW_11 (kd_1_1 hk1)) rfl (by unfold vp_in; decide) dX3_accept_20 ?_
    refine lv_aload_n hx hb dX3_accept_21 rfl (lv_at hl 1 rfl) ?_
    refine va_get (D := D) (ci := 1) (v := .ref (ad (a1 + 2))) (C := RX1) (T := TX1) (N := 8) hx hb hts iX1 hown hK.1 hP a1 (gW_1 hk1) rfl 1 (by decide) f62 (fun _ h9 => h9) rfl dX3_accept_22 ?_
    refine lv_iconst (v := 0) hx hb dX3_accept_25 (by decide) ?_
    refine va_iald (i := 0) hx hb hK.1 hP (a1 + 2) 0 (gW_11 (kd_1_2 hk1)) rfl (by unfold vp_in; decide) dX3_accept_26 ?_
    refine g_bind hs (fun q_6 hq_6 hs => ?_)
    refine gCV_i (As := [.int (v (a1 + 1) 0), .int (v (a1 + 2) 0)]) (rest := [.int (v a0 7)]) ⟨hx, hb, hml, hown, hts⟩ (cX4_fittingSet_c l D cy ad tL z0 hI n v u (a0 + 1) (v (a1 + 1) 0) (v (a1 + 2) 0) q_6 (kd_3_1 hk0) hq_6) (cwV 2 hts gX3_accept_X4_fittingSet rfl rfl rfl (by decide +kernel) ⟨Nat.le_of_ble_eq_true rfl, Nat.le_of_ble_eq_true rfl⟩) hK hP hS (va_recv hK.1 hP (ci := 4) (q0 := a0 + 1) rfl (gW_4 (kd_3_1 hk0))) hl.1 rfl rfl (Nat.le_of_ble_eq_true rfl) dX3_accept_27 ⟨Nat.zero_le _, Nat.zero_le _⟩ (fun H locs hP hS => ?_)
    refine lv_iand hx hb dX3_accept_30 ?_
    refine lv_istore_n (lv' := [(2, .int ((v a0 7) &&& q_6)), (0, .ref (ad a0)), (1, .ref (ad a1))]) hx hb dX3_accept_31 rfl hl (by decide) rfl (fun ls hl => ?_)
    refine lv_iload_n hx hb dX3_accept_32 rfl (lv_at hl 0 rfl) ?_
    refine g_bind hs (fun q_7 hq_7 hs => ?_)
    refine gCS_i (As := [.int ((v a0 7) &&& q_6)]) (rest := []) ⟨hx, hb, hml, hown, hts⟩ (cJ6_bitCount_0f7a4_c l D cy ad tL z0 hI v u ((v a0 7) &&& q_6) q_7 hq_7) (va_cwS 1 hts gX3_accept_J6_bitCount_0f7a4 rfl rfl rfl (by decide +kernel) ⟨Nat.le_of_ble_eq_true rfl, Nat.le_of_ble_eq_true rfl⟩) hK hP hS hl.1 rfl rfl (Nat.le_of_ble_eq_true rfl) dX3_accept_33 ⟨Nat.zero_le _, Nat.zero_le _⟩ (fun H locs hP hS => ?_)
    refine lv_iconst (v := 1) hx hb dX3_accept_36 (by decide) ?_
    refine lv_icmp_eq (tgt := 43) hx hb dX3_accept_37 (by decide) (fun hc => ?_) (fun hc => ?_)
    · have hs := g_t hs hc
      refine lv_aload_n hx hb dX3_accept_43 rfl (lv_at hl 1 rfl) ?_
      refine va_get (D := D) (ci := 3) (v := .ref (ad (a0 + 5))) (C := RX3) (T := TX3) (N := 9) hx hb hts iX3 hown hK.1 hP a0 (gW_3 hk0) rfl 1 (by decide) f21 (fun _ h9 => h9) rfl dX3_accept_44 ?_
      refine lv_aload_n hx hb dX3_accept_47 rfl (lv_at hl 1 rfl) ?_
      refine va_get (D := D) (ci := 3) (v := .int (v a0 8)) (C := RX3) (T := TX3) (N := 9) hx hb hts iX3 hown hK.1 hP a0 (gW_3 hk0) rfl 8 (by decide) f29 (fun _ h9 => h9) rfl dX3_accept_48 ?_
      refine lv_iload_n hx hb dX3_accept_51 rfl (lv_at hl 0 rfl) ?_
      refine g_bind hs (fun q_8 hq_8 hs => ?_)
      refine gCV_v (As := [.int (v a0 8), .int ((v a0 7) &&& q_6)]) (rest := []) ⟨hx, hb, hml, hown, hts⟩ (cX1_choose_c l D cy ad tL z0 hI v u (a0 + 5) (v a0 8) ((v a0 7) &&& q_6) q_8 (kd_3_5 hk0) hq_8) (cwV 2 hts gX3_accept_X1_choose rfl rfl rfl (by decide +kernel) ⟨Nat.le_of_ble_eq_true rfl, Nat.le_of_ble_eq_true rfl⟩) hK hP hS (va_recv hK.1 hP (ci := 1) (q0 := a0 + 5) rfl (gW_1 (kd_3_5 hk0))) hl.1 rfl rfl (Nat.le_of_ble_eq_true rfl) dX3_accept_52 ⟨Nat.zero_le _, Nat.zero_le _⟩ (fun H locs hP hS => ?_)
      refine lv_goto (tgt := 66) hx hb dX3_accept_55 (by decide) ?_
      exact hJ_66 q_8 _ _ _ hP hS (lv_sub hl [1] rfl) hs
    · have hs := g_f hs hc
      refine lv_bipush (v := (-5)) hx hb dX3_accept_40 (by decide) ?_
      exact gRet_i hx hb hr hlocks hK hP hS (g_some2 hs) dX3_accept_42
