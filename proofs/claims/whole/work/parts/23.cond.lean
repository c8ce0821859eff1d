set_option maxHeartbeats 4000000 in
set_option maxRecDepth 100000 in
theorem cX5_ifEntered_c (l : Launch) (hst : l.stackTraces = false) (D : va_G) (cy : Nat → ClassId) (ad : Nat → Nat) (tL z0 : Nat) (hI : gI z0 ad) (n : Nat) (v : gV) (u : Int64) (o : Nat ⊕ Int32) (v1 : gV) (hs : sX5_ifEntered n v = some (o, v1)) : vx_Met l yX5_ifEntered wsX5_ifEntered ({ frames := 6, cells := 1, slots := 6, locals := 141 } : Room) (gPc D cy ad tL z0 v u [.ref (ad 0)]) (gQo D cy ad tL z0 v1 u o) (gXC D cy ad z0 v1 u o) 1 6 (gA z0) := by
  refine vx_ofW (cc := cX5_ifEntered) (maxL := 1) (ret := (some .int)) (by decide) rfl ?_
  intro p e s m args below meth c s₁ B hml hnoex hv
  obtain ⟨rfl, hB0⟩ := hv
  have hP : va_P D vwCl (gW cy ad v u) s.heap := hB0.1
  have hK : gK D cy tL z0 s s.heap := hB0.2
  have hx := B.exec
  have hb := B.bytes
  have hr := B.returns
  have hts := atoms_spec (ws := wsX5_ifEntered) B.pre
  have hown : s.vm.findClass RX5 = some m.cls := findClass_of_methodNamed B.named
  have hlocks := B.notSynchronized
  have hS : va_S (gA z0) s.heap s.heap [] := va_S.rf
  have hl := lv_entry ([.ref (ad 0)]) (n := 1) (Nat.le_of_ble_eq_true rfl)
  rw [lg_entry_eq]
  generalize (lg_sl ([.ref (ad 0)]) ++ List.replicate (1 - (lg_sl ([.ref (ad 0)])).length) Slot.unset).toArray = ls at hl ⊢
  have hl : lv_has ls 1 [(0, .ref (ad 0))] := hl
  have iX5 := (show ∀ w ∈ u_ws RX5 TX5 7, w ∈ wsX5_ifEntered by decide +kernel)
  have f30 := hts (.fieldLink RX5 30 "AdventureParser" "forecast" "LAdventureParser$State;") (by decide +kernel)
  have f26 := hts (.fieldLink RX5 26 "AdventureParser" "state" "LAdventureParser$State;") (by decide +kernel)
  have f19 := hts (.fieldLink RX5 19 "AdventureParser" "reading" "LAdventureParser$Reading;") (by decide +kernel)
  have iX2 := (show ∀ w ∈ u_ws RX2 TX2 3, w ∈ wsX5_ifEntered by decide +kernel)
  have f176 := hts (.fieldLink RX5 176 "AdventureParser$Reading" "text" "LAdventureParser$Command;") (by decide +kernel)
  clear hB0
  unfold sX5_ifEntered at hs
  refine lv_aload_n hx hb dX5_ifEntered_0 rfl (lv_at hl 0 rfl) ?_
  refine g_bind hs (fun q_1 hq_1 hs => ?_)
  refine gCV_i (As := []) (rest := []) ⟨hx, hb, hml, hown, hts⟩ (cX5_readBuffer_c l D cy ad tL z0 hI n v u q_1.1 q_1.2 hq_1) (cwV 0 hts gX5_ifEntered_X5_readBuffer rfl rfl rfl (by decide +kernel) ⟨Nat.le_of_ble_eq_true rfl, Nat.le_of_ble_eq_true rfl⟩) hK hP hS (va_recv hK.1 hP (ci := 5) (q0 := 0) rfl (gW_5 kd0)) hl.1 rfl rfl (Nat.le_of_ble_eq_true rfl) dX5_ifEntered_1 ⟨Nat.zero_le _, Nat.zero_le _⟩ (fun H locs hP hS => ?_)
  refine lv_if_ne (tgt := 15) hx hb dX5_ifEntered_4 (by decide) (fun hc => ?_) (fun hc => ?_)
  · have hs := g_f hs hc
    refine lv_aload_n hx hb dX5_ifEntered_15 rfl (lv_at hl 0 rfl) ?_
    refine va_get (D := D) (ci := 5) (v := .ref (ad 17)) (C := RX5) (T := TX5) (N := 7) hx hb hts iX5 hown hK.1 hP 0 (gW_5 kd0) rfl 3 (by decide) f30 (fun _ h9 => h9) rfl dX5_ifEntered_16 ?_
    refine lv_aload_n hx hb dX5_ifEntered_19 rfl (lv_at hl 0 rfl) ?_
    refine va_get (D := D) (ci := 5) (v := .ref (ad 8)) (C := RX5) (T := TX5) (N := 7) hx hb hts iX5 hown hK.1 hP 0 (gW_5 kd0) rfl 2 (by decide) f26 (fun _ h9 => h9) rfl dX5_ifEntered_20 ?_
    refine g_bind hs (fun q_2 hq_2 hs => ?_)
    refine gCV_v (As := [.ref (ad 8)]) (rest := []) ⟨hx, hb, hml, hown, hts⟩ (cX3_copyFrom_c l D cy ad tL z0 hI n q_1.2 u 17 8 q_2 kd17 kd8 hq_2) (cwV 1 hts gX5_ifEntered_X3_copyFrom rfl rfl rfl (by decide +kernel) ⟨Nat.le_of_ble_eq_true rfl, Nat.le_of_ble_eq_true rfl⟩) hK hP hS (va_recv hK.1 hP (ci := 3) (q0 := 17) rfl (gW_3 kd17)) hl.1 rfl rfl (Nat.le_of_ble_eq_true rfl) dX5_ifEntered_23 ⟨Nat.zero_le _, Nat.zero_le _⟩ (fun H locs hP hS => ?_)
    refine lv_aload_n hx hb dX5_ifEntered_26 rfl (lv_at hl 0 rfl) ?_
    refine va_get (D := D) (ci := 5) (v := .ref (ad 17)) (C := RX5) (T := TX5) (N := 7) hx hb hts iX5 hown hK.1 hP 0 (gW_5 kd0) rfl 3 (by decide) f30 (fun _ h9 => h9) rfl dX5_ifEntered_27 ?_
    refine lv_aload_n hx hb dX5_ifEntered_30 rfl (lv_at hl 0 rfl) ?_
    refine va_get (D := D) (ci := 5) (v := .ref (ad 3)) (C := RX5) (T := TX5) (N := 7) hx hb hts iX5 hown hK.1 hP 0 (gW_5 kd0) rfl 1 (by decide) f19 (fun _ h9 => h9) rfl dX5_ifEntered_31 ?_
    refine va_get (D := D) (ci := 2) (v := .ref (ad 4)) (C := RX2) (T := TX2) (N := 3) hx hb hts iX2 hown hK.1 hP 3 (gW_2 kd3) rfl 0 (by decide) f176 (fun _ h9 => h9) rfl dX5_ifEntered_34 ?_
    refine g_bind hs (fun q_3 hq_3 hs => ?_)
    refine gCV_i (As := [.ref (ad 4)]) (rest := []) ⟨hx, hb, hml, hown, hts⟩ (cX3_accept_c l D cy ad tL z0 hI n q_2 u 17 4 q_3.1 q_3.2 kd17 kd4 hq_3) (cwV 1 hts gX5_ifEntered_X3_accept rfl rfl rfl (by decide +kernel) ⟨Nat.le_of_ble_eq_true rfl, Nat.le_of_ble_eq_true rfl⟩) hK hP hS (va_recv hK.1 hP (ci := 3) (q0 := 17) rfl (gW_3 kd17)) hl.1 rfl rfl (Nat.le_of_ble_eq_true rfl) dX5_ifEntered_37 ⟨Nat.zero_le _, Nat.zero_le _⟩ (fun H locs hP hS => ?_)
    exact gRet_o hx hb hr hlocks rfl hK hP hS (g_some2 hs) dX5_ifEntered_40 (Nat.zero_le _) (Nat.zero_le _)
  · have hs := g_t hs hc
    exact gThr (i := 0) (ik := 53) (ic := 55) (E := "java/lang/IllegalArgumentException") hx hb hst rfl hown (by decide) (hts (.classLink RX5 53 "java/lang/IllegalArgumentException") (by decide +kernel)) (hts (.initialized "java/lang/IllegalArgumentException") (by decide +kernel)) (fun w h => hts w (List.mem_cons_of_mem _ (List.mem_append_right _ h))) gbad_55 ggood_55 hK hP hS (hl.1.trans hml.symm) dX5_ifEntered_7 dX5_ifEntered_10 dX5_ifEntered_11 dX5_ifEntered_14 (fun x h => (hnoex x h).elim) (Nat.le_of_ble_eq_true rfl) (Nat.le_of_ble_eq_true rfl) (Nat.le_of_ble_eq_true rfl) (Nat.le_of_ble_eq_true rfl) hlocks (g_some2 hs) (Nat.le_of_ble_eq_true rfl) (Nat.le_of_ble_eq_true rfl)
set_option maxHeartbeats 4000000 in
set_option maxRecDepth 100000 in
theorem cX5_executed_c (l : Launch) (D : va_G) (cy : Nat → ClassId) (ad : Nat → Nat) (tL z0 : Nat) (hI : gI z0 ad) (v : gV) (u : Int64) (r0 : Int32) (hs : sX5_executed v = some r0) : Met l yX5_executed wsX5_executed ({ frames := 0, cells := 0, slots := 0, locals := 0 } : Room) (gPc D cy ad tL z0 v u [.ref (ad 0)]) (gQi D cy ad tL z0 v u r0) 0 0 (gA z0) := by
  refine Met.ofW (cc := cX5_executed) (maxL := 1) (ret := (some .int)) (by decide) rfl ?_
  intro p e s m args below meth c s₁ B hml hv
  obtain ⟨rfl, hB0⟩ := hv
  have hP : va_P D vwCl (gW cy ad v u) s.heap := hB0.1
  have hK : gK D cy tL z0 s s.heap := hB0.2
  have hx := B.exec
  have hb := B.bytes
  have hr := B.returns
  have hts := atoms_spec (ws := wsX5_executed) B.pre
  have hown : s.vm.findClass RX5 = some m.cls := findClass_of_methodNamed B.named
  have hlocks := B.notSynchronized
  have hS : va_S (gA z0) s.heap s.heap [] := va_S.rf
  have hl := lv_entry ([.ref (ad 0)]) (n := 1) (Nat.le_of_ble_eq_true rfl)
  rw [lg_entry_eq]
  generalize (lg_sl ([.ref (ad 0)]) ++ List.replicate (1 - (lg_sl ([.ref (ad 0)])).length) Slot.unset).toArray = ls at hl ⊢
  have hl : lv_has ls 1 [(0, .ref (ad 0))] := hl
  have iX5 := (show ∀ w ∈ u_ws RX5 TX5 7, w ∈ wsX5_executed by decide +kernel)
  have f26 := hts (.fieldLink RX5 26 "AdventureParser" "state" "LAdventureParser$State;") (by decide +kernel)
  have iX3 := (show ∀ w ∈ u_ws RX3 TX3 9, w ∈ wsX5_executed by decide +kernel)
  have f188 := hts (.fieldLink RX5 188 "AdventureParser$State" "executed" "I") (by decide +kernel)
  clear hB0
  unfold sX5_executed at hs
  refine lv_aload_n hx hb dX5_executed_0 rfl (lv_at hl 0 rfl) ?_
  refine va_get (D := D) (ci := 5) (v := .ref (ad 8)) (C := RX5) (T := TX5) (N := 7) hx hb hts iX5 hown hK.1 hP 0 (gW_5 kd0) rfl 2 (by decide) f26 (fun _ h9 => h9) rfl dX5_executed_1 ?_
  refine va_get (D := D) (ci := 3) (v := .int (v 8 4)) (C := RX3) (T := TX3) (N := 9) hx hb hts iX3 hown hK.1 hP 8 (gW_3 kd8) rfl 4 (by decide) f188 (fun _ h9 => h9) rfl dX5_executed_4 ?_
  exact gRet_i hx hb hr hlocks hK hP hS ⟨g_some hs, rfl⟩ dX5_executed_7
set_option maxHeartbeats 4000000 in
set_option maxRecDepth 100000 in
theorem cX5_failed_c (l : Launch) (D : va_G) (cy : Nat → ClassId) (ad : Nat → Nat) (tL z0 : Nat) (hI : gI z0 ad) (v : gV) (u : Int64) (r0 : Int32) (hs : sX5_failed v = some r0) : Met l yX5_failed wsX5_failed ({ frames := 0, cells := 0, slots := 0, locals := 0 } : Room) (gPc D cy ad tL z0 v u [.ref (ad 0)]) (gQi D cy ad tL z0 v u r0) 0 0 (gA z0) := by
  refine Met.ofW (cc := cX5_failed) (maxL := 1) (ret := (some .int)) (by decide) rfl ?_
  intro p e s m args below meth c s₁ B hml hv
  obtain ⟨rfl, hB0⟩ := hv
  have hP : va_P D vwCl (gW cy ad v u) s.heap := hB0.1
  have hK : gK D cy tL z0 s s.heap := hB0.2
  have hx := B.exec
  have hb := B.bytes
  have hr := B.returns
  have hts := atoms_spec (ws := wsX5_failed) B.pre
  have hown : s.vm.findClass RX5 = some m.cls := findClass_of_methodNamed B.named
  have hlocks := B.notSynchronized
  have hS : va_S (gA z0) s.heap s.heap [] := va_S.rf
  have hl := lv_entry ([.ref (ad 0)]) (n := 1) (Nat.le_of_ble_eq_true rfl)
  rw [lg_entry_eq]
  generalize (lg_sl ([.ref (ad 0)]) ++ List.replicate (1 - (lg_sl ([.ref (ad 0)])).length) Slot.unset).toArray = ls at hl ⊢
  have hl : lv_has ls 1 [(0, .ref (ad 0))] := hl
  have iX5 := (show ∀ w ∈ u_ws RX5 TX5 7, w ∈ wsX5_failed by decide +kernel)
  have f26 := hts (.fieldLink RX5 26 "AdventureParser" "state" "LAdventureParser$State;") (by decide +kernel)
  have iX3 := (show ∀ w ∈ u_ws RX3 TX3 9, w ∈ wsX5_failed by decide +kernel)
  have f191 := hts (.fieldLink RX5 191 "AdventureParser$State" "failed" "I") (by decide +kernel)
  clear hB0
  unfold sX5_failed at hs
  refine lv_aload_n hx hb dX5_failed_0 rfl (lv_at hl 0 rfl) ?_
  refine va_get (D := D) (ci := 5) (v := .ref (ad 8)) (C := RX5) (T := TX5) (N := 7) hx hb hts iX5 hown hK.1 hP 0 (gW_5 kd0) rfl 2 (by decide) f26 (fun _ h9 => h9) rfl dX5_failed_1 ?_
  refine va_get (D := D) (ci := 3) (v := .int (v 8 5)) (C := RX3) (T := TX3) (N := 9) hx hb hts iX3 hown hK.1 hP 8 (gW_3 kd8) rfl 5 (by decide) f191 (fun _ h9 => h9) rfl dX5_failed_4 ?_
  exact gRet_i hx hb hr hlocks hK hP hS ⟨g_some hs, rfl⟩ dX5_failed_7
set_option maxHeartbeats 4000000 in
set_option maxRecDepth 100000 in
theorem cX5_asked_c (l : Launch) (D : va_G) (cy : Nat → ClassId) (ad : Nat → Nat) (tL z0 : Nat) (hI : gI z0 ad) (v : gV) (u : Int64) (r0 : Int32) (hs : sX5_asked v = some r0) : Met l yX5_asked wsX5_asked ({ frames := 0, cells := 0, slots := 0, locals := 0 } : Room) (gPc D cy ad tL z0 v u [.ref (ad 0)]) (gQi D cy ad tL z0 v u r0) 0 0 (gA z0) := by
  refine Met.ofW (cc := cX5_asked) (maxL := 1) (ret := (some .int)) (by decide) rfl ?_
  intro p e s m args below meth c s₁ B hml hv
  obtain ⟨rfl, hB0⟩ := hv
  have hP : va_P D vwCl (gW cy ad v u) s.heap := hB0.1
  have hK : gK D cy tL z0 s s.heap := hB0.2
  have hx := B.exec
  have hb := B.bytes
  have hr := B.returns
  have hts := atoms_spec (ws := wsX5_asked) B.pre
  have hown : s.vm.findClass RX5 = some m.cls := findClass_of_methodNamed B.named
  have hlocks := B.notSynchronized
  have hS : va_S (gA z0) s.heap s.heap [] := va_S.rf
  have hl := lv_entry ([.ref (ad 0)]) (n := 1) (Nat.le_of_ble_eq_true rfl)
  rw [lg_entry_eq]
  generalize (lg_sl ([.ref (ad 0)]) ++ List.replicate (1 - (lg_sl ([.ref (ad 0)])).length) Slot.unset).toArray = ls at hl ⊢
  have hl : lv_has ls 1 [(0, .ref (ad 0))] := hl
  have iX5 := (show ∀ w ∈ u_ws RX5 TX5 7, w ∈ wsX5_asked by decide +kernel)
  have f26 := hts (.fieldLink RX5 26 "AdventureParser" "state" "LAdventureParser$State;") (by decide +kernel)
  have iX3 := (show ∀ w ∈ u_ws RX3 TX3 9, w ∈ wsX5_asked by decide +kernel)
  have f194 := hts (.fieldLink RX5 194 "AdventureParser$State" "asked" "I") (by decide +kernel)
  clear hB0
  unfold sX5_asked at hs
  refine lv_aload_n hx hb dX5_asked_0 rfl (lv_at hl 0 rfl) ?_
  refine va_get (D := D) (ci := 5) (v := .ref (ad 8)) (C := RX5) (T := TX5) (N := 7) hx hb hts iX5 hown hK.1 hP 0 (gW_5 kd0) rfl 2 (by decide) f26 (fun _ h9 => h9) rfl dX5_asked_1 ?_
  refine va_get (D := D) (ci := 3) (v := .int (v 8 6)) (C := RX3) (T := TX3) (N := 9) hx hb hts iX3 hown hK.1 hP 8 (gW_3 kd8) rfl 6 (by decide) f194 (fun _ h9 => h9) rfl dX5_asked_4 ?_
  exact gRet_i hx hb hr hlocks hK hP hS ⟨g_some hs, rfl⟩ dX5_asked_7
set_option maxHeartbeats 4000000 in
set_option maxRecDepth 100000 in
theorem cX5_undo_c (l : Launch) (hst : l.stackTraces = false) (D : va_G) (cy : Nat → ClassId) (ad : Nat → Nat) (tL z0 : Nat) (hI : gI z0 ad) (n : Nat) (v : gV) (u : Int64) (o : Nat ⊕ Int32) (v1 : gV) (hs : sX5_undo n v = some (o, v1)) : vx_Met l yX5_undo wsX5_undo ({ frames := 6, cells := 1, slots := 6, locals := 90 } : Room) (gPc D cy ad tL z0 v u [.ref (ad 0)]) (gQo D cy ad tL z0 v1 u o) (gXC D cy ad z0 v1 u o) 1 6 (gA z0) := by
  refine vx_ofW (cc := cX5_undo) (maxL := 1) (ret := (some .int)) (by decide) rfl ?_
  intro p e s m args below meth c s₁ B hml hnoex hv
  obtain ⟨rfl, hB0⟩ := hv
  have hP : va_P D vwCl (gW cy ad v u) s.heap := hB0.1
  have hK : gK D cy tL z0 s s.heap := hB0.2
  have hx := B.exec
  have hb := B.bytes
  have hr := B.returns
  have hts := atoms_spec (ws := wsX5_undo) B.pre
  have hown : s.vm.findClass RX5 = some m.cls := findClass_of_methodNamed B.named
  have hlocks := B.notSynchronized
  have hS : va_S (gA z0) s.heap s.heap [] := va_S.rf
  have hl := lv_entry ([.ref (ad 0)]) (n := 1) (Nat.le_of_ble_eq_true rfl)
  rw [lg_entry_eq]
  generalize (lg_sl ([.ref (ad 0)]) ++ List.replicate (1 - (lg_sl ([.ref (ad 0)])).length) Slot.unset).toArray = ls at hl ⊢
  have hl : lv_has ls 1 [(0, .ref (ad 0))] := hl
  have iX5 := (show ∀ w ∈ u_ws RX5 TX5 7, w ∈ wsX5_undo by decide +kernel)
  have f197 := hts (.fieldLink RX5 197 "AdventureParser" "savedCount" "I") (by decide +kernel)
  have f200 := hts (.fieldLink RX5 200 "AdventureParser" "nextSaved" "I") (by decide +kernel)
  have f26 := hts (.fieldLink RX5 26 "AdventureParser" "state" "LAdventureParser$State;") (by decide +kernel)
  have f33 := hts (.fieldLink RX5 33 "AdventureParser" "saved" "[LAdventureParser$State;") (by decide +kernel)
  clear hB0
  have hJ_33 : ∀ (v : gV) (t1 : Int32) (H : Heap) (locs : List Loc) (ls : Array Slot), va_P D vwCl (gW cy ad v u) H → va_S (gA z0) s.heap H locs → lv_has ls 1 [(0, .ref (ad 0))] → sX5_undo_33 n v t1 = some (o, v1) → W p l e (headSpec wsX5_undo ({ frames := 6, cells := 1, slots := 6, locals := 90 } : Room)).room s m ([.ref (ad 0)] : List Value).toArray below meth c H locs 0 0 (vx_MQ below (gQo D cy ad tL z0 v1 u o) (gXC D cy ad z0 v1 u o) ([.ref (ad 0)] : List Value).toArray s 1 6 (gA z0)) (F0 m 33 ls [.int t1, .ref (ad 0)]) := by
    intro v t1 H locs ls hP hS hl hs
    unfold sX5_undo_33 at hs
    refine va_put (D := D) (ci := 5) (v := .int t1) (ty := .int) (C := RX5) (T := TX5) (N := 7) hx hb hts iX5 tyX5 tyX5_ok nmX5 hown hK.1 hP (gD hI) hS 0 (gW_5 kd0) rfl 6 (by decide) f200 (fun _ h9 => h9) rfl (by decide +kernel) rfl rfl (Nat.le_of_ble_eq_true rfl) dX5_undo_33 (fun H locs hP _ hS => ?_)
    refine g_let hs (fun v_1 ev_1 hs => ?_)
    have hP : va_P D vwCl (gW cy ad v_1 u) H := gPset ((gS_5_6 kd0 t1).trans (congrArg (fun z => gW cy ad z u) ev_1.symm)) hP
    refine lv_aload_n hx hb dX5_undo_36 rfl (lv_at hl 0 rfl) ?_
    refine lv_dup hx hb dX5_undo_37 rfl ?_
    refine va_get (D := D) (ci := 5) (v := .int (v_1 0 5)) (C := RX5) (T := TX5) (N := 7) hx hb hts iX5 hown hK.1 hP 0 (gW_5 kd0) rfl 5 (by decide) f197 (fun _ h9 => h9) rfl dX5_undo_38 ?_
    refine lv_iconst (v := 1) hx hb dX5_undo_41 (by decide) ?_
    refine lv_isub hx hb dX5_undo_42 ?_
    refine va_put (D := D) (ci := 5) (v := .int ((v_1 0 5) - 1)) (ty := .int) (C := RX5) (T := TX5) (N := 7) hx hb hts iX5 tyX5 tyX5_ok nmX5 hown hK.1 hP (gD hI) hS 0 (gW_5 kd0) rfl 5 (by decide) f197 (fun _ h9 => h9) rfl (by decide +kernel) rfl rfl (Nat.le_of_ble_eq_true rfl) dX5_undo_43 (fun H locs hP _ hS => ?_)
    refine g_let hs (fun v_2 ev_2 hs => ?_)
    have hP : va_P D vwCl (gW cy ad v_2 u) H := gPset ((gS_5_5 kd0 ((v_1 0 5) - 1)).trans (congrArg (fun z => gW cy ad z u) ev_2.symm)) hP
    refine lv_aload_n hx hb dX5_undo_46 rfl (lv_at hl 0 rfl) ?_
    refine lv_aload_n hx hb dX5_undo_47 rfl (lv_at hl 0 rfl) ?_
    refine va_get (D := D) (ci := 5) (v := .int (v_2 0 6)) (C := RX5) (T := TX5) (N := 7) hx hb hts iX5 hown hK.1 hP 0 (gW_5 kd0) rfl 6 (by decide) f200 (fun _ h9 => h9) rfl dX5_undo_48 ?_
    refine g_bind hs (fun q_3 hq_3 hs => ?_)
    refine gCV_i (As := [.int (v_2 0 6)]) (rest := []) ⟨hx, hb, hml, hown, hts⟩ (cX5_hasRow_c l D cy ad tL z0 hI v_2 u (v_2 0 6) q_3 hq_3) (cwV 1 hts gX5_undo_X5_hasRow rfl rfl rfl (by decide +kernel) ⟨Nat.le_of_ble_eq_true rfl, Nat.le_of_ble_eq_true rfl⟩) hK hP hS (va_recv hK.1 hP (ci := 5) (q0 := 0) rfl (gW_5 kd0)) hl.1 rfl rfl (Nat.le_of_ble_eq_true rfl) dX5_undo_51 ⟨Nat.zero_le _, Nat.zero_le _⟩ (fun H locs hP hS => ?_)
    refine lv_if_eq (tgt := 73) hx hb dX5_undo_54 (by decide) (fun hc => ?_) (fun hc => ?_)
    · have hs := g_t hs hc
      refine lv_aload_n hx hb dX5_undo_73 rfl (lv_at hl 0 rfl) ?_
      refine va_get (D := D) (ci := 5) (v := .int (v_2 0 5)) (C := RX5) (T := TX5) (N := 7) hx hb hts iX5 hown hK.1 hP 0 (gW_5 kd0) rfl 5 (by decide) f197 (fun _ h9 => h9) rfl dX5_undo_74 ?_
      exact gRet_o hx hb hr hlocks rfl hK hP hS (g_some2 hs) dX5_undo_77 (Nat.zero_le _) (Nat.zero_le _)
    · have hs := g_f hs hc
      refine lv_aload_n hx hb dX5_undo_57 rfl (lv_at hl 0 rfl) ?_
      refine va_get (D := D) (ci := 5) (v := .ref (ad 8)) (C := RX5) (T := TX5) (N := 7) hx hb hts iX5 hown hK.1 hP 0 (gW_5 kd0) rfl 2 (by decide) f26 (fun _ h9 => h9) rfl dX5_undo_58 ?_
      refine lv_aload_n hx hb dX5_undo_61 rfl (lv_at hl 0 rfl) ?_
      refine va_get (D := D) (ci := 5) (v := .ref (ad 26)) (C := RX5) (T := TX5) (N := 7) hx hb hts iX5 hown hK.1 hP 0 (gW_5 kd0) rfl 4 (by decide) f33 (fun _ h9 => h9) rfl dX5_undo_62 ?_
      refine lv_aload_n hx hb dX5_undo_65 rfl (lv_at hl 0 rfl) ?_
      refine va_get (D := D) (ci := 5) (v := .int (v_2 0 6)) (C := RX5) (T := TX5) (N := 7) hx hb hts iX5 hown hK.1 hP 0 (gW_5 kd0) rfl 6 (by decide) f200 (fun _ h9 => h9) rfl dX5_undo_66 ?_
      refine g_chk hs (fun hc hs => ?_)
      refine va_aldq hx hb hK.1 hP 26 2 (gW_13 kd26) rfl hc dX5_undo_69 ?_
      have hc69 := hc
      refine g_bind hs (fun q_4 hq_4 hs => ?_)
      refine gCV_v (As := [.ref (ad (27 + 9 * (v_2 0 6).toNatClampNeg))]) (rest := []) ⟨hx, hb, hml, hown, hts⟩ (cX3_copyFrom_c l D cy ad tL z0 hI n v_2 u 8 (27 + 9 * (v_2 0 6).toNatClampNeg) q_4 kd8 (kd_sv (Nat.not_le.mp fun z9 => hc69 (Or.inr z9))) hq_4) (cwV 1 hts gX5_undo_X3_copyFrom rfl rfl rfl (by decide +kernel) ⟨Nat.le_of_ble_eq_true rfl, Nat.le_of_ble_eq_true rfl⟩) hK hP hS (va_recv hK.1 hP (ci := 3) (q0 := 8) rfl (gW_3 kd8)) hl.1 rfl rfl (Nat.le_of_ble_eq_true rfl) dX5_undo_70 ⟨Nat.zero_le _, Nat.zero_le _⟩ (fun H locs hP hS => ?_)
      refine lv_aload_n hx hb dX5_undo_73 rfl (lv_at hl 0 rfl) ?_
      refine va_get (D := D) (ci := 5) (v := .int (q_4 0 5)) (C := RX5) (T := TX5) (N := 7) hx hb hts iX5 hown hK.1 hP 0 (gW_5 kd0) rfl 5 (by decide) f197 (fun _ h9 => h9) rfl dX5_undo_74 ?_
      exact gRet_o hx hb hr hlocks rfl hK hP hS (g_some2 hs) dX5_undo_77 (Nat.zero_le _) (Nat.zero_le _)
  unfold sX5_undo at hs
  refine lv_aload_n hx hb dX5_undo_0 rfl (lv_at hl 0 rfl) ?_
  refine va_get (D := D) (ci := 5) (v := .int (v 0 5)) (C := RX5) (T := TX5) (N := 7) hx hb hts iX5 hown hK.1 hP 0 (gW_5 kd0) rfl 5 (by decide) f197 (fun _ h9 => h9) rfl dX5_undo_1 ?_
  refine lv_if_gt (tgt := 15) hx hb dX5_undo_4 (by decide) (fun hc => ?_) (fun hc => ?_)
  · have hs := g_t hs hc
    refine lv_aload_n hx hb dX5_undo_15 rfl (lv_at hl 0 rfl) ?_
    refine lv_aload_n hx hb dX5_undo_16 rfl (lv_at hl 0 rfl) ?_
    refine va_get (D := D) (ci := 5) (v := .int (v 0 6)) (C := RX5) (T := TX5) (N := 7) hx hb hts iX5 hown hK.1 hP 0 (gW_5 kd0) rfl 6 (by decide) f200 (fun _ h9 => h9) rfl dX5_undo_17 ?_
    refine lv_if_le (tgt := 32) hx hb dX5_undo_20 (by decide) (fun hc => ?_) (fun hc => ?_)
    · have hs := g_t hs hc
      refine lv_iconst (v := 5) hx hb dX5_undo_32 (by decide) ?_
      exact hJ_33 v 5 _ _ _ hP hS (lv_sub hl [0] rfl) hs
    · have hs := g_f hs hc
      refine lv_aload_n hx hb dX5_undo_23 rfl (lv_at hl 0 rfl) ?_
      refine va_get (D := D) (ci := 5) (v := .int (v 0 6)) (C := RX5) (T := TX5) (N := 7) hx hb hts iX5 hown hK.1 hP 0 (gW_5 kd0) rfl 6 (by decide) f200 (fun _ h9 => h9) rfl dX5_undo_24 ?_
      refine lv_iconst (v := 1) hx hb dX5_undo_27 (by decide) ?_
      refine lv_isub hx hb dX5_undo_28 ?_
      refine lv_goto (tgt := 33) hx hb dX5_undo_29 (by decide) ?_
      exact hJ_33 v ((v 0 6) - 1) _ _ _ hP hS (lv_sub hl [0] rfl) hs
  · have hs := g_f hs hc
    exact gThr (i := 1) (ik := 70) (ic := 72) (E := "java/lang/IllegalStateException") hx hb hst rfl hown (by decide) (hts (.classLink RX5 70 "java/lang/IllegalStateException") (by decide +kernel)) (hts (.initialized "java/lang/IllegalStateException") (by decide +kernel)) (fun w h => hts w (List.mem_cons_of_mem _ (List.mem_append_right _ h))) gbad_72 ggood_72 hK hP hS (hl.1.trans hml.symm) dX5_undo_7 dX5_undo_10 dX5_undo_11 dX5_undo_14 (fun x h => (hnoex x h).elim) (Nat.le_of_ble_eq_true rfl) (Nat.le_of_ble_eq_true rfl) (Nat.le_of_ble_eq_true rfl) (Nat.le_of_ble_eq_true rfl) hlocks (g_some2 hs) (Nat.le_of_ble_eq_true rfl) (Nat.le_of_ble_eq_true rfl)
set_option maxHeartbeats 4000000 in
set_option maxRecDepth 100000 in
theorem cX5_savedStates_c (l : Launch) (D : va_G) (cy : Nat → ClassId) (ad : Nat → Nat) (tL z0 : Nat) (hI : gI z0 ad) (v : gV) (u : Int64) (r0 : Int32) (hs : sX5_savedStates v = some r0) : Met l yX5_savedStates wsX5_savedStates ({ frames := 0, cells := 0, slots := 0, locals := 0 } : Room) (gPc D cy ad tL z0 v u [.ref (ad 0)]) (gQi D cy ad tL z0 v u r0) 0 0 (gA z0) := by
  refine Met.ofW (cc := cX5_savedStates) (maxL := 1) (ret := (some .int)) (by decide) rfl ?_
  intro p e s m args below meth c s₁ B hml hv
  obtain ⟨rfl, hB0⟩ := hv
  have hP : va_P D vwCl (gW cy ad v u) s.heap := hB0.1
  have hK : gK D cy tL z0 s s.heap := hB0.2
  have hx := B.exec
  have hb := B.bytes
  have hr := B.returns
  have hts := atoms_spec (ws := wsX5_savedStates) B.pre
  have hown : s.vm.findClass RX5 = some m.cls := findClass_of_methodNamed B.named
  have hlocks := B.notSynchronized
  have hS : va_S (gA z0) s.heap s.heap [] := va_S.rf
  have hl := lv_entry ([.ref (ad 0)]) (n := 1) (Nat.le_of_ble_eq_true rfl)
  rw [lg_entry_eq]
  generalize (lg_sl ([.ref (ad 0)]) ++ List.replicate (1 - (lg_sl ([.ref (ad 0)])).length) Slot.unset).toArray = ls at hl ⊢
  have hl : lv_has ls 1 [(0, .ref (ad 0))] := hl
  have iX5 := (show ∀ w ∈ u_ws RX5 TX5 7, w ∈ wsX5_savedStates by decide +kernel)
  have f197 := hts (.fieldLink RX5 197 "AdventureParser" "savedCount" "I") (by decide +kernel)
  clear hB0
  unfold sX5_savedStates at hs
  refine lv_aload_n hx hb dX5_savedStates_0 rfl (lv_at hl 0 rfl) ?_
  refine va_get (D := D) (ci := 5) (v := .int (v 0 5)) (C := RX5) (T := TX5) (N := 7) hx hb hts iX5 hown hK.1 hP 0 (gW_5 kd0) rfl 5 (by decide) f197 (fun _ h9 => h9) rfl dX5_savedStates_1 ?_
  exact gRet_i hx hb hr hlocks hK hP hS ⟨g_some hs, rfl⟩ dX5_savedStates_4
set_option maxHeartbeats 4000000 in
set_option maxRecDepth 100000 in
theorem cX5_mixed_c (l : Launch) (D : va_G) (cy : Nat → ClassId) (ad : Nat → Nat) (tL z0 : Nat) (hI : gI z0 ad) (v : gV) (u : Int64) (x0 : Int64) (x2 : Int32) (r0 : Int64) (hs : sX5_mixed x0 x2 = some r0) : Met l yX5_mixed wsX5_mixed ({ frames := 0, cells := 0, slots := 0, locals := 0 } : Room) (gPc D cy ad tL z0 v u [.long x0, .int x2]) (gQl D cy ad tL z0 v u r0) 0 0 (gA z0) := by
  refine Met.ofW (cc := cX5_mixed) (maxL := 3) (ret := (some .long)) (by decide) rfl ?_
  intro p e s m args below meth c s₁ B hml hv
  obtain ⟨rfl, hB0⟩ := hv
  have hP : va_P D vwCl (gW cy ad v u) s.heap := hB0.1
  have hK : gK D cy tL z0 s s.heap := hB0.2
  have hx := B.exec
  have hb := B.bytes
  have hr := B.returns
  have hts := atoms_spec (ws := wsX5_mixed) B.pre
  have hown : s.vm.findClass RX5 = some m.cls := findClass_of_methodNamed B.named
  have hlocks := B.notSynchronized
  have hS : va_S (gA z0) s.heap s.heap [] := va_S.rf
  have hl := lv_entry ([.long x0, .int x2]) (n := 3) (Nat.le_of_ble_eq_true rfl)
  rw [lg_entry_eq]
  generalize (lg_sl ([.long x0, .int x2]) ++ List.replicate (3 - (lg_sl ([.long x0, .int x2])).length) Slot.unset).toArray = ls at hl ⊢
  have hl : lv_has ls 3 [(0, .long x0), (2, .int x2)] := hl
  have k234 := hts (.constantLong RX5 234 (31)) (by decide +kernel)
  clear hB0
  unfold sX5_mixed at hs
  refine lv_ldc2 hx hb hown k234 dX5_mixed_0 ?_
  refine lv_lload_n hx hb dX5_mixed_3 rfl (lv_at hl 0 rfl) ?_
  refine lv_lmul hx hb dX5_mixed_4 ?_
  refine lv_iload_n hx hb dX5_mixed_5 rfl (lv_at hl 1 rfl) ?_
  refine lv_i2l hx hb dX5_mixed_6 rfl ?_
  refine lv_ladd hx hb dX5_mixed_7 ?_
  exact gRet_l hx hb hr hlocks hK hP hS ⟨g_some hs, rfl⟩ dX5_mixed_8
set_option maxHeartbeats 4000000 in
set_option maxRecDepth 100000 in
theorem cX5_digest_c (l : Launch) (D : va_G) (cy : Nat → ClassId) (ad : Nat → Nat) (tL z0 : Nat) (hI : gI z0 ad) (n : Nat) (v : gV) (u : Int64) (r0 : Int64) (hs : sX5_digest n v = some r0) : Met l yX5_digest wsX5_digest ({ frames := 3, cells := 0, slots := 0, locals := 68 } : Room) (gPc D cy ad tL z0 v u [.ref (ad 0)]) (gQl D cy ad tL z0 v u r0) 0 0 (gA z0) := by
  refine Met.ofW (cc := cX5_digest) (maxL := 5) (ret := (some .long)) (by decide) rfl ?_
  intro p e s m args below meth c s₁ B hml hv
  obtain ⟨rfl, hB0⟩ := hv
  have hP : va_P D vwCl (gW cy ad v u) s.heap := hB0.1
  have hK : gK D cy tL z0 s s.heap := hB0.2
  have hx := B.exec
  have hb := B.bytes
  have hr := B.returns
  have hts := atoms_spec (ws := wsX5_digest) B.pre
  have hown : s.vm.findClass RX5 = some m.cls := findClass_of_methodNamed B.named
  have hlocks := B.notSynchronized
  have hS : va_S (gA z0) s.heap s.heap [] := va_S.rf
  have hl := lv_entry ([.ref (ad 0)]) (n := 5) (Nat.le_of_ble_eq_true rfl)
  rw [lg_entry_eq]
  generalize (lg_sl ([.ref (ad 0)]) ++ List.replicate (5 - (lg_sl ([.ref (ad 0)])).length) Slot.unset).toArray = ls at hl ⊢
  have hl : lv_has ls 5 [(0, .ref (ad 0))] := hl
  have k206 := hts (.constantLong RX5 206 (8144)) (by decide +kernel)
  have iX5 := (show ∀ w ∈ u_ws RX5 TX5 7, w ∈ wsX5_digest by decide +kernel)
  have f26 := hts (.fieldLink RX5 26 "AdventureParser" "state" "LAdventureParser$State;") (by decide +kernel)
  have iX3 := (show ∀ w ∈ u_ws RX3 TX3 9, w ∈ wsX5_digest by decide +kernel)
  have f37 := hts (.fieldLink RX5 37 "AdventureParser$State" "world" "LAdventureParser$World;") (by decide +kernel)
  have iX4 := (show ∀ w ∈ u_ws RX4 TX4 6, w ∈ wsX5_digest by decide +kernel)
  have f59 := hts (.fieldLink RX5 59 "AdventureParser$World" "count" "I") (by decide +kernel)
  have f95 := hts (.fieldLink RX5 95 "AdventureParser$World" "nouns" "[I") (by decide +kernel)
  have f99 := hts (.fieldLink RX5 99 "AdventureParser$World" "adjectives" "[I") (by decide +kernel)
  have f102 := hts (.fieldLink RX5 102 "AdventureParser$World" "places" "[I") (by decide +kernel)
  have f105 := hts (.fieldLink RX5 105 "AdventureParser$World" "openSet" "I") (by decide +kernel)
  clear hB0
  have hL_171 : ∀ (k : Nat), ∀ (w1 : Int64) (w4 : Int32) (H : Heap) (locs : List Loc) (ls : Array Slot), va_P D vwCl (gW cy ad v u) H → va_S (gA z0) s.heap H locs → lv_has ls 5 [(1, .long w1), (3, .ref (ad 9)), (4, .int w4)] → sX5_digest_171 n k v w1 w4 = some r0 → W p l e (headSpec wsX5_digest ({ frames := 3, cells := 0, slots := 0, locals := 68 } : Room)).room s m ([.ref (ad 0)] : List Value).toArray below meth c H locs 0 0 (MQ below (gQl D cy ad tL z0 v u r0) ([.ref (ad 0)] : List Value).toArray s 0 0 (gA z0)) (F0 m 171 ls []) := by
    intro k
    induction k with
    | zero =>
      intro w1 w4 H locs ls hP hS hl hs
      exact g_none hs
    | succ k ih =>
      intro w1 w4 H locs ls hP hS hl hs
      rw [sX5_digest_171] at hs
      refine lv_iload hx hb dX5_digest_171 (lv_at hl 2 rfl) ?_
      refine lv_iconst (v := 4) hx hb dX5_digest_173 (by decide) ?_
      refine lv_icmp_gt (tgt := 194) hx hb dX5_digest_174 (by decide) (fun hc => ?_) (fun hc => ?_)
      · have hs := g_t hs hc
        refine lv_lload_n hx hb dX5_digest_194 rfl (lv_at hl 0 rfl) ?_
        exact gRet_l hx hb hr hlocks hK hP hS ⟨g_some hs, rfl⟩ dX5_digest_195
      · have hs := g_f hs hc
        refine lv_lload_n hx hb dX5_digest_177 rfl (lv_at hl 0 rfl) ?_
        refine lv_aload_n hx hb dX5_digest_178 rfl (lv_at hl 1 rfl) ?_
        refine lv_iload hx hb dX5_digest_179 (lv_at hl 2 rfl) ?_
        refine g_bind hs (fun q_19 hq_19 hs => ?_)
        refine gCV_i (As := [.int w4]) (rest := [.long w1]) ⟨hx, hb, hml, hown, hts⟩ (cX4_suitableSet_c l D cy ad tL z0 hI n v u 9 w4 q_19 kd9 hq_19) (cwV 1 hts gX5_digest_X4_suitableSet rfl rfl rfl (by decide +kernel) ⟨Nat.le_of_ble_eq_true rfl, Nat.le_of_ble_eq_true rfl⟩) hK hP hS (va_recv hK.1 hP (ci := 4) (q0 := 9) rfl (gW_4 kd9)) hl.1 rfl rfl (Nat.le_of_ble_eq_true rfl) dX5_digest_181 ⟨Nat.zero_le _, Nat.zero_le _⟩ (fun H locs hP hS => ?_)
        refine g_bind hs (fun q_20 hq_20 hs => ?_)
        refine gCS_l (As := [.long w1, .int q_19]) (rest := []) ⟨hx, hb, hml, hown, hts⟩ (cX5_mixed_c l D cy ad tL z0 hI v u w1 q_19 q_20 hq_20) (va_cwS 2 hts gX5_digest_X5_mixed rfl rfl rfl (by decide +kernel) ⟨Nat.le_of_ble_eq_true rfl, Nat.le_of_ble_eq_true rfl⟩) hK hP hS hl.1 rfl rfl (Nat.le_of_ble_eq_true rfl) dX5_digest_184 ⟨Nat.zero_le _, Nat.zero_le _⟩ (fun H locs hP hS => ?_)
        refine lv_lstore_n (lv' := [(1, .long q_20), (3, .ref (ad 9)), (4, .int w4)]) hx hb dX5_digest_187 rfl hl (by decide) rfl (fun ls hl => ?_)
        refine lv_iinc (v := w4 + 1) (lv' := [(4, .int (w4 + 1)), (1, .long q_20), (3, .ref (ad 9))]) hx hb dX5_digest_188 hl (k := 2) rfl rfl (by decide) rfl (fun ls hl => ?_)
        refine lv_goto (tgt := 171) hx hb dX5_digest_191 (by decide) ?_
        exact ih q_20 (w4 + 1) _ _ _ hP hS (lv_sub hl [1, 2, 0] rfl) hs
  have hL_96 : ∀ (k : Nat), ∀ (w1 : Int64) (w4 : Int32) (H : Heap) (locs : List Loc) (ls : Array Slot), va_P D vwCl (gW cy ad v u) H → va_S (gA z0) s.heap H locs → lv_has ls 5 [(1, .long w1), (3, .ref (ad 9)), (4, .int w4)] → sX5_digest_96 n k v w1 w4 = some r0 → W p l e (headSpec wsX5_digest ({ frames := 3, cells := 0, slots := 0, locals := 68 } : Room)).room s m ([.ref (ad 0)] : List Value).toArray below meth c H locs 0 0 (MQ below (gQl D cy ad tL z0 v u r0) ([.ref (ad 0)] : List Value).toArray s 0 0 (gA z0)) (F0 m 96 ls []) := by
    intro k
    induction k with
    | zero =>
      intro w1 w4 H locs ls hP hS hl hs
      exact g_none hs
    | succ k ih =>
      intro w1 w4 H locs ls hP hS hl hs
      rw [sX5_digest_96] at hs
      refine lv_iload hx hb dX5_digest_96 (lv_at hl 2 rfl) ?_
      refine lv_aload_n hx hb dX5_digest_98 rfl (lv_at hl 1 rfl) ?_
      refine va_get (D := D) (ci := 4) (v := .int (v 9 3)) (C := RX4) (T := TX4) (N := 6) hx hb hts iX4 hown hK.1 hP 9 (gW_4 kd9) rfl 3 (by decide) f59 (fun _ h9 => h9) rfl dX5_digest_99 ?_
      refine lv_icmp_ge (tgt := 168) hx hb dX5_digest_102 (by decide) (fun hc => ?_) (fun hc => ?_)
      · have hs := g_t hs hc
        refine lv_iconst (v := 0) hx hb dX5_digest_168 (by decide) ?_
        refine lv_istore (lv' := [(4, .int 0), (1, .long w1), (3, .ref (ad 9))]) hx hb dX5_digest_169 hl (by decide) rfl (fun ls hl => ?_)
        exact hL_171 n w1 0 _ _ _ hP hS (lv_sub hl [1, 2, 0] rfl) hs
      · have hs := g_f hs hc
        refine lv_iload hx hb dX5_digest_105 (lv_at hl 2 rfl) ?_
        refine lv_bipush (v := 12) hx hb dX5_digest_107 (by decide) ?_
        refine lv_icmp_ge (tgt := 168) hx hb dX5_digest_109 (by decide) (fun hc => ?_) (fun hc => ?_)
        · have hs := g_t hs hc
          refine lv_iconst (v := 0) hx hb dX5_digest_168 (by decide) ?_
          refine lv_istore (lv' := [(4, .int 0), (1, .long w1), (3, .ref (ad 9))]) hx hb dX5_digest_169 hl (by decide) rfl (fun ls hl => ?_)
          exact hL_171 n w1 0 _ _ _ hP hS (lv_sub hl [1, 2, 0] rfl) hs
        · have hs := g_f hs hc
          refine lv_lload_n hx hb dX5_digest_112 rfl (lv_at hl 0 rfl) ?_
          refine lv_aload_n hx hb dX5_digest_113 rfl (lv_at hl 1 rfl) ?_
          refine va_get (D := D) (ci := 4) (v := .ref (ad 10)) (C := RX4) (T := TX4) (N := 6) hx hb hts iX4 hown hK.1 hP 9 (gW_4 kd9) rfl 0 (by decide) f95 (fun _ h9 => h9) rfl dX5_digest_114 ?_
          refine lv_iload hx hb dX5_digest_117 (lv_at hl 2 rfl) ?_
          refine g_chk hs (fun hc hs => ?_)
          refine va_iald hx hb hK.1 hP 10 0 (gW_12 kd10) rfl hc dX5_digest_119 ?_
          refine g_bind hs (fun q_21 hq_21 hs => ?_)
          refine gCS_l (As := [.long w1, .int (v 10 w4.toNatClampNeg)]) (rest := []) ⟨hx, hb, hml, hown, hts⟩ (cX5_mixed_c l D cy ad tL z0 hI v u w1 (v 10 w4.toNatClampNeg) q_21 hq_21) (va_cwS 2 hts gX5_digest_X5_mixed rfl rfl rfl (by decide +kernel) ⟨Nat.le_of_ble_eq_true rfl, Nat.le_of_ble_eq_true rfl⟩) hK hP hS hl.1 rfl rfl (Nat.le_of_ble_eq_true rfl) dX5_digest_120 ⟨Nat.zero_le _, Nat.zero_le _⟩ (fun H locs hP hS => ?_)
          refine lv_lstore_n (lv' := [(1, .long q_21), (3, .ref (ad 9)), (4, .int w4)]) hx hb dX5_digest_123 rfl hl (by decide) rfl (fun ls hl => ?_)
          refine lv_lload_n hx hb dX5_digest_124 rfl (lv_at hl 0 rfl) ?_
          refine lv_aload_n hx hb dX5_digest_125 rfl (lv_at hl 1 rfl) ?_
          refine va_get (D := D) (ci := 4) (v := .ref (ad 11)) (C := RX4) (T := TX4) (N := 6) hx hb hts iX4 hown hK.1 hP 9 (gW_4 kd9) rfl 1 (by decide) f99 (fun _ h9 => h9) rfl dX5_digest_126 ?_
          refine lv_iload hx hb dX5_digest_129 (lv_at hl 2 rfl) ?_
          refine g_chk hs (fun hc hs => ?_)
          refine va_iald hx hb hK.1 hP 11 0 (gW_12 kd11) rfl hc dX5_digest_131 ?_
          refine g_bind hs (fun q_22 hq_22 hs => ?_)
          refine gCS_l (As := [.long q_21, .int (v 11 w4.toNatClampNeg)]) (rest := []) ⟨hx, hb, hml, hown, hts⟩ (cX5_mixed_c l D cy ad tL z0 hI v u q_21 (v 11 w4.toNatClampNeg) q_22 hq_22) (va_cwS 2 hts gX5_digest_X5_mixed rfl rfl rfl (by decide +kernel) ⟨Nat.le_of_ble_eq_true rfl, Nat.le_of_ble_eq_true rfl⟩) hK hP hS hl.1 rfl rfl (Nat.le_of_ble_eq_true rfl) dX5_digest_132 ⟨Nat.zero_le _, Nat.zero_le _⟩ (fun H locs hP hS => ?_)
          refine lv_lstore_n (lv' := [(1, .long q_22), (3, .ref (ad 9)), (4, .int w4)]) hx hb dX5_digest_135 rfl hl (by decide) rfl (fun ls hl => ?_)
          refine lv_lload_n hx hb dX5_digest_136 rfl (lv_at hl 0 rfl) ?_
          refine lv_aload_n hx hb dX5_digest_137 rfl (lv_at hl 1 rfl) ?_
          refine va_get (D := D) (ci := 4) (v := .ref (ad 12)) (C := RX4) (T := TX4) (N := 6) hx hb hts iX4 hown hK.1 hP 9 (gW_4 kd9) rfl 2 (by decide) f102 (fun _ h9 => h9) rfl dX5_digest_138 ?_
          refine lv_iload hx hb dX5_digest_141 (lv_at hl 2 rfl) ?_
          refine g_chk hs (fun hc hs => ?_)
          refine va_iald hx hb hK.1 hP 12 0 (gW_12 kd12) rfl hc dX5_digest_143 ?_
          refine g_bind hs (fun q_23 hq_23 hs => ?_)
          refine gCS_l (As := [.long q_22, .int (v 12 w4.toNatClampNeg)]) (rest := []) ⟨hx, hb, hml, hown, hts⟩ (cX5_mixed_c l D cy ad tL z0 hI v u q_22 (v 12 w4.toNatClampNeg) q_23 hq_23) (va_cwS 2 hts gX5_digest_X5_mixed rfl rfl rfl (by decide +kernel) ⟨Nat.le_of_ble_eq_true rfl, Nat.le_of_ble_eq_true rfl⟩) hK hP hS hl.1 rfl rfl (Nat.le_of_ble_eq_true rfl) dX5_digest_144 ⟨Nat.zero_le _, Nat.zero_le _⟩ (fun H locs hP hS => ?_)
          refine lv_lstore_n (lv' := [(1, .long q_23), (3, .ref (ad 9)), (4, .int w4)]) hx hb dX5_digest_147 rfl hl (by decide) rfl (fun ls hl => ?_)
          refine lv_lload_n hx hb dX5_digest_148 rfl (lv_at hl 0 rfl) ?_
          refine lv_aload_n hx hb dX5_digest_149 rfl (lv_at hl 1 rfl) ?_
          refine va_get (D := D) (ci := 4) (v := .int (v 9 5)) (C := RX4) (T := TX4) (N := 6) hx hb hts iX4 hown hK.1 hP 9 (gW_4 kd9) rfl 5 (by decide) f105 (fun _ h9 => h9) rfl dX5_digest_150 ?_
          refine lv_iload hx hb dX5_digest_153 (lv_at hl 2 rfl) ?_
          refine lv_ishr hx hb dX5_digest_155 ?_
          refine lv_iconst (v := 1) hx hb dX5_digest_156 (by decide) ?_
          refine lv_iand hx hb dX5_digest_157 ?_
          refine g_bind hs (fun q_24 hq_24 hs => ?_)
          refine gCS_l (As := [.long q_23, .int (((v 9 5) >>> (w4 &&& 31)) &&& 1)]) (rest := []) ⟨hx, hb, hml, hown, hts⟩ (cX5_mixed_c l D cy ad tL z0 hI v u q_23 (((v 9 5) >>> (w4 &&& 31)) &&& 1) q_24 hq_24) (va_cwS 2 hts gX5_digest_X5_mixed rfl rfl rfl (by decide +kernel) ⟨Nat.le_of_ble_eq_true rfl, Nat.le_of_ble_eq_true rfl⟩) hK hP hS hl.1 rfl rfl (Nat.le_of_ble_eq_true rfl) dX5_digest_158 ⟨Nat.zero_le _, Nat.zero_le _⟩ (fun H locs hP hS => ?_)
          refine lv_lstore_n (lv' := [(1, .long q_24), (3, .ref (ad 9)), (4, .int w4)]) hx hb dX5_digest_161 rfl hl (by decide) rfl (fun ls hl => ?_)
          refine lv_iinc (v := w4 + 1) (lv' := [(4, .int (w4 + 1)), (1, .long q_24), (3, .ref (ad 9))]) hx hb dX5_digest_162 hl (k := 2) rfl rfl (by decide) rfl (fun ls hl => ?_)
          refine lv_goto (tgt := 96) hx hb dX5_digest_165 (by decide) ?_
          exact ih q_24 (w4 + 1) _ _ _ hP hS (lv_sub hl [1, 2, 0] rfl) hs
  unfold sX5_digest at hs
  refine lv_ldc2 hx hb hown k206 dX5_digest_0 ?_
  refine lv_lstore_n (lv' := [(1, .long 8144), (0, .ref (ad 0))]) hx hb dX5_digest_3 rfl hl (by decide) rfl (fun ls hl => ?_)
  refine lv_lload_n hx hb dX5_digest_4 rfl (lv_at hl 0 rfl) ?_
  refine lv_aload_n hx hb dX5_digest_5 rfl (lv_at hl 1 rfl) ?_
  refine g_bind hs (fun q_1 hq_1 hs => ?_)
  refine gCV_i (As := []) (rest := [.long 8144]) ⟨hx, hb, hml, hown, hts⟩ (cX5_objects_c l D cy ad tL z0 hI v u q_1 hq_1) (cwV 0 hts gX5_digest_X5_objects rfl rfl rfl (by decide +kernel) ⟨Nat.le_of_ble_eq_true rfl, Nat.le_of_ble_eq_true rfl⟩) hK hP hS (va_recv hK.1 hP (ci := 5) (q0 := 0) rfl (gW_5 kd0)) hl.1 rfl rfl (Nat.le_of_ble_eq_true rfl) dX5_digest_6 ⟨Nat.zero_le _, Nat.zero_le _⟩ (fun H locs hP hS => ?_)
  refine g_bind hs (fun q_2 hq_2 hs => ?_)
  refine gCS_l (As := [.long 8144, .int q_1]) (rest := []) ⟨hx, hb, hml, hown, hts⟩ (cX5_mixed_c l D cy ad tL z0 hI v u 8144 q_1 q_2 hq_2) (va_cwS 2 hts gX5_digest_X5_mixed rfl rfl rfl (by decide +kernel) ⟨Nat.le_of_ble_eq_true rfl, Nat.le_of_ble_eq_true rfl⟩) hK hP hS hl.1 rfl rfl (Nat.le_of_ble_eq_true rfl) dX5_digest_9 ⟨Nat.zero_le _, Nat.zero_le _⟩ (fun H locs hP hS => ?_)
  refine lv_lstore_n (lv' := [(1, .long q_2), (0, .ref (ad 0))]) hx hb dX5_digest_12 rfl hl (by decide) rfl (fun ls hl => ?_)
  refine lv_lload_n hx hb dX5_digest_13 rfl (lv_at hl 0 rfl) ?_
  refine lv_aload_n hx hb dX5_digest_14 rfl (lv_at hl 1 rfl) ?_
  refine g_bind hs (fun q_3 hq_3 hs => ?_)
  refine gCV_i (As := []) (rest := [.long q_2]) ⟨hx, hb, hml, hown, hts⟩ (cX5_room_c l D cy ad tL z0 hI v u q_3 hq_3) (cwV 0 hts gX5_digest_X5_room rfl rfl rfl (by decide +kernel) ⟨Nat.le_of_ble_eq_true rfl, Nat.le_of_ble_eq_true rfl⟩) hK hP hS (va_recv hK.1 hP (ci := 5) (q0 := 0) rfl (gW_5 kd0)) hl.1 rfl rfl (Nat.le_of_ble_eq_true rfl) dX5_digest_15 ⟨Nat.zero_le _, Nat.zero_le _⟩ (fun H locs hP hS => ?_)
  refine g_bind hs (fun q_4 hq_4 hs => ?_)
  refine gCS_l (As := [.long q_2, .int q_3]) (rest := []) ⟨hx, hb, hml, hown, hts⟩ (cX5_mixed_c l D cy ad tL z0 hI v u q_2 q_3 q_4 hq_4) (va_cwS 2 hts gX5_digest_X5_mixed rfl rfl rfl (by decide +kernel) ⟨Nat.le_of_ble_eq_true rfl, Nat.le_of_ble_eq_true rfl⟩) hK hP hS hl.1 rfl rfl (Nat.le_of_ble_eq_true rfl) dX5_digest_18 ⟨Nat.zero_le _, Nat.zero_le _⟩ (fun H locs hP hS => ?_)
  refine lv_lstore_n (lv' := [(1, .long q_4), (0, .ref (ad 0))]) hx hb dX5_digest_21 rfl hl (by decide) rfl (fun ls hl => ?_)
  refine lv_lload_n hx hb dX5_digest_22 rfl (lv_at hl 0 rfl) ?_
  refine lv_aload_n hx hb dX5_digest_23 rfl (lv_at hl 1 rfl) ?_
  refine g_bind hs (fun q_5 hq_5 hs => ?_)
  refine gCV_i (As := []) (rest := [.long q_4]) ⟨hx, hb, hml, hown, hts⟩ (cX5_visible_c l D cy ad tL z0 hI n v u q_5 hq_5) (cwV 0 hts gX5_digest_X5_visible rfl rfl rfl (by decide +kernel) ⟨Nat.le_of_ble_eq_true rfl, Nat.le_of_ble_eq_true rfl⟩) hK hP hS (va_recv hK.1 hP (ci := 5) (q0 := 0) rfl (gW_5 kd0)) hl.1 rfl rfl (Nat.le_of_ble_eq_true rfl) dX5_digest_24 ⟨Nat.zero_le _, Nat.zero_le _⟩ (fun H locs hP hS => ?_)
  refine g_bind hs (fun q_6 hq_6 hs => ?_)
  refine gCS_l (As := [.long q_4, .int q_5]) (rest := []) ⟨hx, hb, hml, hown, hts⟩ (cX5_mixed_c l D cy ad tL z0 hI v u q_4 q_5 q_6 hq_6) (va_cwS 2 hts gX5_digest_X5_mixed rfl rfl rfl (by decide +kernel) ⟨Nat.le_of_ble_eq_true rfl, Nat.le_of_ble_eq_true rfl⟩) hK hP hS hl.1 rfl rfl (Nat.le_of_ble_eq_true rfl) dX5_digest_27 ⟨Nat.zero_le _, Nat.zero_le _⟩ (fun H locs hP hS => ?_)
  refine lv_lstore_n (lv' := [(1, .long q_6), (0, .ref (ad 0))]) hx hb dX5_digest_30 rfl hl (by decide) rfl (fun ls hl => ?_)
  refine lv_lload_n hx hb dX5_digest_31 rfl (lv_at hl 0 rfl) ?_
  refine lv_aload_n hx hb dX5_digest_32 rfl (lv_at hl 1 rfl) ?_
  refine g_bind hs (fun q_7 hq_7 hs => ?_)
  refine gCV_i (As := []) (rest := [.long q_6]) ⟨hx, hb, hml, hown, hts⟩ (cX5_candidates_c l D cy ad tL z0 hI v u q_7 hq_7) (cwV 0 hts gX5_digest_X5_candidates rfl rfl rfl (by decide +kernel) ⟨Nat.le_of_ble_eq_true rfl, Nat.le_of_ble_eq_true rfl⟩) hK hP hS (va_recv hK.1 hP (ci := 5) (q0 := 0) rfl (gW_5 kd0)) hl.1 rfl rfl (Nat.le_of_ble_eq_true rfl) dX5_digest_33 ⟨Nat.zero_le _, Nat.zero_le _⟩ (fun H locs hP hS => ?_)
  refine g_bind hs (fun q_8 hq_8 hs => ?_)
  refine gCS_l (As := [.long q_6, .int q_7]) (rest := []) ⟨hx, hb, hml, hown, hts⟩ (cX5_mixed_c l D cy ad tL z0 hI v u q_6 q_7 q_8 hq_8) (va_cwS 2 hts gX5_digest_X5_mixed rfl rfl rfl (by decide +kernel) ⟨Nat.le_of_ble_eq_true rfl, Nat.le_of_ble_eq_true rfl⟩) hK hP hS hl.1 rfl rfl (Nat.le_of_ble_eq_true rfl) dX5_digest_36 ⟨Nat.zero_le _, Nat.zero_le _⟩ (fun H locs hP hS => ?_)
  refine lv_lstore_n (lv' := [(1, .long q_8), (0, .ref (ad 0))]) hx hb dX5_digest_39 rfl hl (by decide) rfl (fun ls hl => ?_)
  refine lv_lload_n hx hb dX5_digest_40 rfl (lv_at hl 0 rfl) ?_
  refine lv_aload_n hx hb dX5_digest_41 rfl (lv_at hl 1 rfl) ?_
  refine g_bind hs (fun q_9 hq_9 hs => ?_)
  refine gCV_i (As := []) (rest := [.long q_8]) ⟨hx, hb, hml, hown, hts⟩ (cX5_it_c l D cy ad tL z0 hI v u q_9 hq_9) (cwV 0 hts gX5_digest_X5_it rfl rfl rfl (by decide +kernel) ⟨Nat.le_of_ble_eq_true rfl, Nat.le_of_ble_eq_true rfl⟩) hK hP hS (va_recv hK.1 hP (ci := 5) (q0 := 0) rfl (gW_5 kd0)) hl.1 rfl rfl (Nat.le_of_ble_eq_true rfl) dX5_digest_42 ⟨Nat.zero_le _, Nat.zero_le _⟩ (fun H locs hP hS => ?_)
  refine g_bind hs (fun q_10 hq_10 hs => ?_)
  refine gCS_l (As := [.long q_8, .int q_9]) (rest := []) ⟨hx, hb, hml, hown, hts⟩ (cX5_mixed_c l D cy ad tL z0 hI v u q_8 q_9 q_10 hq_10) (va_cwS 2 hts gX5_digest_X5_mixed rfl rfl rfl (by decide +kernel) ⟨Nat.le_of_ble_eq_true rfl, Nat.le_of_ble_eq_true rfl⟩) hK hP hS hl.1 rfl rfl (Nat.le_of_ble_eq_true rfl) dX5_digest_45 ⟨Nat.zero_le _, Nat.zero_le _⟩ (fun H locs hP hS => ?_)
  refine lv_lstore_n (lv' := [(1, .long q_10), (0, .ref (ad 0))]) hx hb dX5_digest_48 rfl hl (by decide) rfl (fun ls hl => ?_)
  refine lv_lload_n hx hb dX5_digest_49 rfl (lv_at hl 0 rfl) ?_
  refine lv_aload_n hx hb dX5_digest_50 rfl (lv_at hl 1 rfl) ?_
  refine g_bind hs (fun q_11 hq_11 hs => ?_)
  refine gCV_i (As := []) (rest := [.long q_10]) ⟨hx, hb, hml, hown, hts⟩ (cX5_them_c l D cy ad tL z0 hI v u q_11 hq_11) (cwV 0 hts gX5_digest_X5_them rfl rfl rfl (by decide +kernel) ⟨Nat.le_of_ble_eq_true rfl, Nat.le_of_ble_eq_true rfl⟩) hK hP hS (va_recv hK.1 hP (ci := 5) (q0 := 0) rfl (gW_5 kd0)) hl.1 rfl rfl (Nat.le_of_ble_eq_true rfl) dX5_digest_51 ⟨Nat.zero_le _, Nat.zero_le _⟩ (fun H locs hP hS => ?_)
  refine g_bind hs (fun q_12 hq_12 hs => ?_)
  refine gCS_l (As := [.long q_10, .int q_11]) (rest := []) ⟨hx, hb, hml, hown, hts⟩ (cX5_mixed_c l D cy ad tL z0 hI v u q_10 q_11 q_12 hq_12) (va_cwS 2 hts gX5_digest_X5_mixed rfl rfl rfl (by decide +kernel) ⟨Nat.le_of_ble_eq_true rfl, Nat.le_of_ble_eq_true rfl⟩) hK hP hS hl.1 rfl rfl (Nat.le_of_ble_eq_true rfl) dX5_digest_54 ⟨Nat.zero_le _, Nat.zero_le _⟩ (fun H locs hP hS => ?_)
  refine lv_lstore_n (lv' := [(1, .long q_12), (0, .ref (ad 0))]) hx hb dX5_digest_57 rfl hl (by decide) rfl (fun ls hl => ?_)
  refine lv_lload_n hx hb dX5_digest_58 rfl (lv_at hl 0 rfl) ?_
  refine lv_aload_n hx hb dX5_digest_59 rfl (lv_at hl 1 rfl) ?_
  refine g_bind hs (fun q_13 hq_13 hs => ?_)
  refine gCV_i (As := []) (rest := [.long q_12]) ⟨hx, hb, hml, hown, hts⟩ (cX5_executed_c l D cy ad tL z0 hI v u q_13 hq_13) (cwV 0 hts gX5_digest_X5_executed rfl rfl rfl (by decide +kernel) ⟨Nat.le_of_ble_eq_true rfl, Nat.le_of_ble_eq_true rfl⟩) hK hP hS (va_recv hK.1 hP (ci := 5) (q0 := 0) rfl (gW_5 kd0)) hl.1 rfl rfl (Nat.le_of_ble_eq_true rfl) dX5_digest_60 ⟨Nat.zero_le _, Nat.zero_le _⟩ (fun H locs hP hS => ?_)
  refine g_bind hs (fun q_14 hq_14 hs => ?_)
  refine gCS_l (As := [.long q_12, .int q_13]) (rest := []) ⟨hx, hb, hml, hown, hts⟩ (cX5_mixed_c l D cy ad tL z0 hI v u q_12 q_13 q_14 hq_14) (va_cwS 2 hts gX5_digest_X5_mixed rfl rfl rfl (by decide +kernel) ⟨Nat.le_of_ble_eq_true rfl, Nat.le_of_ble_eq_true rfl⟩) hK hP hS hl.1 rfl rfl (Nat.le_of_ble_eq_true rfl) dX5_digest_63 ⟨Nat.zero_le _, Nat.zero_le _⟩ (fun H locs hP hS => ?_)
  refine lv_lstore_n (lv' := [(1, .long q_14), (0, .ref (ad 0))]) hx hb dX5_digest_66 rfl hl (by decide) rfl (fun ls hl => ?_)
  refine lv_lload_n hx hb dX5_digest_67 rfl (lv_at hl 0 rfl) ?_
  refine lv_aload_n hx hb dX5_digest_68 rfl (lv_at hl 1 rfl) ?_
  refine g_bind hs (fun q_15 hq_15 hs => ?_)
  refine gCV_i (As := []) (rest := [.long q_14]) ⟨hx, hb, hml, hown, hts⟩ (cX5_failed_c l D cy ad tL z0 hI v u q_15 hq_15) (cwV 0 hts gX5_digest_X5_failed rfl rfl rfl (by decide +kernel) ⟨Nat.le_of_ble_eq_true rfl, Nat.le_of_ble_eq_true rfl⟩) hK hP hS (va_recv hK.1 hP (ci := 5) (q0 := 0) rfl (gW_5 kd0)) hl.1 rfl rfl (Nat.le_of_ble_eq_true rfl) dX5_digest_69 ⟨Nat.zero_le _, Nat.zero_le _⟩ (fun H locs hP hS => ?_)
  refine g_bind hs (fun q_16 hq_16 hs => ?_)
  refine gCS_l (As := [.long q_14, .int q_15]) (rest := []) ⟨hx, hb, hml, hown, hts⟩ (cX5_mixed_c l D cy ad tL z0 hI v u q_14 q_15 q_16 hq_16) (va_cwS 2 hts gX5_digest_X5_mixed rfl rfl rfl (by decide +kernel) ⟨Nat.le_of_ble_eq_true rfl, Nat.le_of_ble_eq_true rfl⟩) hK hP hS hl.1 rfl rfl (Nat.le_of_ble_eq_true rfl) dX5_digest_72 ⟨Nat.zero_le _, Nat.zero_le _⟩ (fun H locs hP hS => ?_)
  refine lv_lstore_n (lv' := [(1, .long q_16), (0, .ref (ad 0))]) hx hb dX5_digest_75 rfl hl (by decide) rfl (fun ls hl => ?_)
  refine lv_lload_n hx hb dX5_digest_76 rfl (lv_at hl 0 rfl) ?_
  refine lv_aload_n hx hb dX5_digest_77 rfl (lv_at hl 1 rfl) ?_
  refine g_bind hs (fun q_17 hq_17 hs => ?_)
  refine gCV_i (As := []) (rest := [.long q_16]) ⟨hx, hb, hml, hown, hts⟩ (cX5_asked_c l D cy ad tL z0 hI v u q_17 hq_17) (cwV 0 hts gX5_digest_X5_asked rfl rfl rfl (by decide +kernel) ⟨Nat.le_of_ble_eq_true rfl, Nat.le_of_ble_eq_true rfl⟩) hK hP hS (va_recv hK.1 hP (ci := 5) (q0 := 0) rfl (gW_5 kd0)) hl.1 rfl rfl (Nat.le_of_ble_eq_true rfl) dX5_digest_78 ⟨Nat.zero_le _, Nat.zero_le _⟩ (fun H locs hP hS => ?_)
  refine g_bind hs (fun q_18 hq_18 hs => ?_)
  refine gCS_l (As := [.long q_16, .int q_17]) (rest := []) ⟨hx, hb, hml, hown, hts⟩ (cX5_mixed_c l D cy ad tL z0 hI v u q_16 q_17 q_18 hq_18) (va_cwS 2 hts gX5_digest_X5_mixed rfl rfl rfl (by decide +kernel) ⟨Nat.le_of_ble_eq_true rfl, Nat.le_of_ble_eq_true rfl⟩) hK hP hS hl.1 rfl rfl (Nat.le_of_ble_eq_true rfl) dX5_digest_81 ⟨Nat.zero_le _, Nat.zero_le _⟩ (fun H locs hP hS => ?_)
  refine lv_lstore_n (lv' := [(1, .long q_18), (0, .ref (ad 0))]) hx hb dX5_digest_84 rfl hl (by decide) rfl (fun ls hl => ?_)
  refine lv_aload_n hx hb dX5_digest_85 rfl (lv_at hl 1 rfl) ?_
  refine va_get (D := D) (ci := 5) (v := .ref (ad 8)) (C := RX5) (T := TX5) (N := 7) hx hb hts iX5 hown hK.1 hP 0 (gW_5 kd0) rfl 2 (by decide) f26 (fun _ h9 => h9) rfl dX5_digest_86 ?_
  refine va_get (D := D) (ci := 3) (v := .ref (ad 9)) (C := RX3) (T := TX3) (N := 9) hx hb hts iX3 hown hK.1 hP 8 (gW_3 kd8) rfl 0 (by decide) f37 (fun _ h9 => h9) rfl dX5_digest_89 ?_
  refine lv_astore_n (lv' := [(3, .ref (ad 9)), (1, .long q_18), (0, .ref (ad 0))]) hx hb dX5_digest_92 rfl hl (by decide) rfl (fun ls hl => ?_)
  refine lv_iconst (v := 0) hx hb dX5_digest_93 (by decide) ?_
  refine lv_istore (lv' := [(4, .int 0), (3, .ref (ad 9)), (1, .long q_18), (0, .ref (ad 0))]) hx hb dX5_digest_94 hl (by decide) rfl (fun ls hl => ?_)
  exact hL_96 n q_18 0 _ _ _ hP hS (lv_sub hl [2, 1, 0] rfl) hs
set_option maxHeartbeats 4000000 in
set_option maxRecDepth 100000 in
theorem cX6_thrown_c (l : Launch) (D : va_G) (cy : Nat → ClassId) (ad : Nat → Nat) (tL z0 : Nat) (hI : gI z0 ad) (v : gV) (u : Int64) (r0 : Int32) (hs : sX6_thrown v = some r0) : Met l yX6_thrown wsX6_thrown ({ frames := 0, cells := 0, slots := 0, locals := 0 } : Room) (gPc D cy ad tL z0 v u [.ref (ad 81)]) (gQi D cy ad tL z0 v u r0) 0 0 (gA z0) := by
  refine Met.ofW (cc := cX6_thrown) (maxL := 1) (ret := (some .int)) (by decide) rfl ?_
  intro p e s m args below meth c s₁ B hml hv
  obtain ⟨rfl, hB0⟩ := hv
  have hP : va_P D vwCl (gW cy ad v u) s.heap := hB0.1
  have hK : gK D cy tL z0 s s.heap := hB0.2
  have hx := B.exec
  have hb := B.bytes
  have hr := B.returns
  have hts := atoms_spec (ws := wsX6_thrown) B.pre
  have hown : s.vm.findClass RX6 = some m.cls := findClass_of_methodNamed B.named
  have hlocks := B.notSynchronized
  have hS : va_S (gA z0) s.heap s.heap [] := va_S.rf
  have hl := lv_entry ([.ref (ad 81)]) (n := 1) (Nat.le_of_ble_eq_true rfl)
  rw [lg_entry_eq]
  generalize (lg_sl ([.ref (ad 81)]) ++ List.replicate (1 - (lg_sl ([.ref (ad 81)])).length) Slot.unset).toArray = ls at hl ⊢
  have hl : lv_has ls 1 [(0, .ref (ad 81))] := hl
  have iX6 := (show ∀ w ∈ u_ws RX6 TX6 17, w ∈ wsX6_thrown by decide +kernel)
  have f31 := hts (.fieldLink RX6 31 "AdventureParserModel" "thrown" "I") (by decide +kernel)
  clear hB0
  unfold sX6_thrown at hs
  refine lv_aload_n hx hb dX6_thrown_0 rfl (lv_at hl 0 rfl) ?_
  refine va_get (D := D) (ci := 6) (v := .int (v 81 8)) (C := RX6) (T := TX6) (N := 17) hx hb hts iX6 hown hK.1 hP 81 (gW_6 kd81) rfl 8 (by decide) f31 (fun _ h9 => h9) rfl dX6_thrown_1 ?_
  exact gRet_i hx hb hr hlocks hK hP hS ⟨g_some hs, rfl⟩ dX6_thrown_4
set_option maxHeartbeats 4000000 in
set_option maxRecDepth 100000 in
theorem cX6_throwing_c (l : Launch) (D : va_G) (cy : Nat → ClassId) (ad : Nat → Nat) (tL z0 : Nat) (hI : gI z0 ad) (v : gV) (u : Int64) (x1 : Int32) (r0 : Int32) (v1 : gV) (hs : sX6_throwing v x1 = some (r0, v1)) : Met l yX6_throwing wsX6_throwing ({ frames := 0, cells := 0, slots := 0, locals := 0 } : Room) (gPc D cy ad tL z0 v u [.ref (ad 81), .int x1]) (gQi D cy ad tL z0 v1 u r0) 0 0 (gA z0) := by
  refine Met.ofW (cc := cX6_throwing) (maxL := 2) (ret := (some .int)) (by decide) rfl ?_
  intro p e s m args below meth c s₁ B hml hv
  obtain ⟨rfl, hB0⟩ := hv
  have hP : va_P D vwCl (gW cy ad v u) s.heap := hB0.1
  have hK : gK D cy tL z0 s s.heap := hB0.2
  have hx := B.exec
  have hb := B.bytes
  have hr := B.returns
  have hts := atoms_spec (ws := wsX6_throwing) B.pre
  have hown : s.vm.findClass RX6 = some m.cls := findClass_of_methodNamed B.named
  have hlocks := B.notSynchronized
  have hS : va_S (gA z0) s.heap s.heap [] := va_S.rf
  have hl := lv_entry ([.ref (ad 81), .int x1]) (n := 2) (Nat.le_of_ble_eq_true rfl)
  rw [lg_entry_eq]
  generalize (lg_sl ([.ref (ad 81), .int x1]) ++ List.replicate (2 - (lg_sl ([.ref (ad 81), .int x1])).length) Slot.unset).toArray = ls at hl ⊢
  have hl : lv_has ls 2 [(0, .ref (ad 81)), (1, .int x1)] := hl
  have iX6 := (show ∀ w ∈ u_ws RX6 TX6 17, w ∈ wsX6_throwing by decide +kernel)
  have f31 := hts (.fieldLink RX6 31 "AdventureParserModel" "thrown" "I") (by decide +kernel)
  clear hB0
  unfold sX6_throwing at hs
  refine lv_aload_n hx hb dX6_throwing_0 rfl (lv_at hl 0 rfl) ?_
  refine lv_iload_n hx hb dX6_throwing_1 rfl (lv_at hl 1 rfl) ?_
  refine va_put (D := D) (ci := 6) (v := .int x1) (ty := .int) (C := RX6) (T := TX6) (N := 17) hx hb hts iX6 tyX6 tyX6_ok nmX6 hown hK.1 hP (gD hI) hS 81 (gW_6 kd81) rfl 8 (by decide) f31 (fun _ h9 => h9) rfl (by decide +kernel) rfl rfl (Nat.le_of_ble_eq_true rfl) dX6_throwing_2 (fun H locs hP _ hS => ?_)
  refine g_let hs (fun v_1 ev_1 hs => ?_)
  have hP : va_P D vwCl (gW cy ad v_1 u) H := gPset ((gS_6_8 kd81 x1).trans (congrArg (fun z => gW cy ad z u) ev_1.symm)) hP
  refine lv_iconst (v := 0) hx hb dX6_throwing_5 (by decide) ?_
  exact gRet_i hx hb hr hlocks hK hP hS (g_some2 hs) dX6_throwing_6
set_option maxHeartbeats 4000000 in
set_option maxRecDepth 100000 in
theorem cX6_in_c (l : Launch) (D : va_G) (cy : Nat → ClassId) (ad : Nat → Nat) (tL z0 : Nat) (hI : gI z0 ad) (v : gV) (u : Int64) (x0 : Int32) (x1 : Int32) (x2 : Int32) (r0 : Int32) (hs : sX6_in x0 x1 x2 = some r0) : Met l yX6_in wsX6_in ({ frames := 0, cells := 0, slots := 0, locals := 0 } : Room) (gPc D cy ad tL z0 v u [.int x0, .int x1, .int x2]) (gQi D cy ad tL z0 v u r0) 0 0 (gA z0) := by
  refine Met.ofW (cc := cX6_in) (maxL := 3) (ret := (some .boolean)) (by decide) rfl ?_
  intro p e s m args below meth c s₁ B hml hv
  obtain ⟨rfl, hB0⟩ := hv
  have hP : va_P D vwCl (gW cy ad v u) s.heap := hB0.1
  have hK : gK D cy tL z0 s s.heap := hB0.2
  have hx := B.exec
  have hb := B.bytes
  have hr := B.returns
  have hts := atoms_spec (ws := wsX6_in) B.pre
  have hown : s.vm.findClass RX6 = some m.cls := findClass_of_methodNamed B.named
  have hlocks := B.notSynchronized
  have hS : va_S (gA z0) s.heap s.heap [] := va_S.rf
  have hl := lv_entry ([.int x0, .int x1, .int x2]) (n := 3) (Nat.le_of_ble_eq_true rfl)
  rw [lg_entry_eq]
  generalize (lg_sl ([.int x0, .int x1, .int x2]) ++ List.replicate (3 - (lg_sl ([.int x0, .int x1, .int x2])).length) Slot.unset).toArray = ls at hl ⊢
  have hl : lv_has ls 3 [(0, .int x0), (1, .int x1), (2, .int x2)] := hl
  clear hB0
  unfold sX6_in at hs
  refine lv_iload_n hx hb dX6_in_0 rfl (lv_at hl 0 rfl) ?_
  refine lv_iload_n hx hb dX6_in_1 rfl (lv_at hl 1 rfl) ?_
  refine lv_icmp_lt (tgt := 14) hx hb dX6_in_2 (by decide) (fun hc => ?_) (fun hc => ?_)
  · have hs := g_t hs hc
    refine lv_iconst (v := 0) hx hb dX6_in_14 (by decide) ?_
    exact gRet_z hx hb hr hlocks rfl hK hP hS ⟨g_some hs, rfl⟩ dX6_in_15
  · have hs := g_f hs hc
    refine lv_iload_n hx hb dX6_in_5 rfl (lv_at hl 0 rfl) ?_
    refine lv_iload_n hx hb dX6_in_6 rfl (lv_at hl 2 rfl) ?_
    refine lv_icmp_gt (tgt := 14) hx hb dX6_in_7 (by decide) (fun hc => ?_) (fun hc => ?_)
    · have hs := g_t hs hc
      refine lv_iconst (v := 0) hx hb dX6_in_14 (by decide) ?_
      exact gRet_z hx hb hr hlocks rfl hK hP hS ⟨g_some hs, rfl⟩ dX6_in_15
    · have hs := g_f hs hc
      refine lv_iconst (v := 1) hx hb dX6_in_10 (by decide) ?_
      refine lv_goto (tgt := 15) hx hb dX6_in_11 (by decide) ?_
      exact gRet_z hx hb hr hlocks rfl hK hP hS ⟨g_some hs, rfl⟩ dX6_in_15
set_option maxHeartbeats 4000000 in
set_option maxRecDepth 100000 in
theorem cX6_putAside_c (l : Launch) (D : va_G) (cy : Nat → ClassId) (ad : Nat → Nat) (tL z0 : Nat) (hI : gI z0 ad) (n : Nat) (v : gV) (u : Int64) (v1 : gV) (hs : sX6_putAside n v = some v1) : Met l yX6_putAside wsX6_putAside ({ frames := 0, cells := 0, slots := 0, locals := 0 } : Room) (gPc D cy ad tL z0 v u [.ref (ad 81)]) (gQv D cy ad tL z0 v1 u) 0 0 (gA z0) := by
  refine Met.ofW (cc := cX6_putAside) (maxL := 2) (ret := none) (by decide) rfl ?_
  intro p e s m args below meth c s₁ B hml hv
  obtain ⟨rfl, hB0⟩ := hv
  have hP : va_P D vwCl (gW cy ad v u) s.heap := hB0.1
  have hK : gK D cy tL z0 s s.heap := hB0.2
  have hx := B.exec
  have hb := B.bytes
  have hr := B.returns
  have hts := atoms_spec (ws := wsX6_putAside) B.pre
  have hown : s.vm.findClass RX6 = some m.cls := findClass_of_methodNamed B.named
  have hlocks := B.notSynchronized
  have hS : va_S (gA z0) s.heap s.heap [] := va_S.rf
  have hl := lv_entry ([.ref (ad 81)]) (n := 2) (Nat.le_of_ble_eq_true rfl)
  rw [lg_entry_eq]
  generalize (lg_sl ([.ref (ad 81)]) ++ List.replicate (2 - (lg_sl ([.ref (ad 81)])).length) Slot.unset).toArray = ls at hl ⊢
  have hl : lv_has ls 2 [(0, .ref (ad 81))] := hl
  have iX6 := (show ∀ w ∈ u_ws RX6 TX6 17, w ∈ wsX6_putAside by decide +kernel)
  have f19 := hts (.fieldLink RX6 19 "AdventureParserModel" "aside" "[I") (by decide +kernel)
  have f16 := hts (.fieldLink RX6 16 "AdventureParserModel" "s" "[I") (by decide +kernel)
  clear hB0
  have hL_2 : ∀ (k : Nat), ∀ (v : gV) (w1 : Int32) (H : Heap) (locs : List Loc) (ls : Array Slot), va_P D vwCl (gW cy ad v u) H → va_S (gA z0) s.heap H locs → lv_has ls 2 [(0, .ref (ad 81)), (1, .int w1)] → sX6_putAside_2 n k v w1 = some v1 → W p l e (headSpec wsX6_putAside ({ frames := 0, cells := 0, slots := 0, locals := 0 } : Room)).room s m ([.ref (ad 81)] : List Value).toArray below meth c H locs 0 0 (MQ below (gQv D cy ad tL z0 v1 u) ([.ref (ad 81)] : List Value).toArray s 0 0 (gA z0)) (F0 m 2 ls []) := by
    intro k
    induction k with
    | zero =>
      intro v w1 H locs ls hP hS hl hs
      exact g_none hs
    | succ k ih =>
      intro v w1 H locs ls hP hS hl hs
      rw [sX6_putAside_2] at hs
      refine lv_iload_n hx hb dX6_putAside_2 rfl (lv_at hl 1 rfl) ?_
      refine lv_bipush (v := 122) hx hb dX6_putAside_3 (by decide) ?_
      refine lv_icmp_ge (tgt := 26) hx hb dX6_putAside_5 (by decide) (fun hc => ?_) (fun hc => ?_)
      · have hs := g_t hs hc
        exact gRet_v hx hb hr hlocks hK hP hS (g_some hs) dX6_putAside_26
      · have hs := g_f hs hc
        refine lv_aload_n hx hb dX6_putAside_8 rfl (lv_at hl 0 rfl) ?_
        refine va_get (D := D) (ci := 6) (v := .ref (ad 85)) (C := RX6) (T := TX6) (N := 17) hx hb hts iX6 hown hK.1 hP 81 (gW_6 kd81) rfl 3 (by decide) f19 (fun _ h9 => h9) rfl dX6_putAside_9 ?_
        refine lv_iload_n hx hb dX6_putAside_12 rfl (lv_at hl 1 rfl) ?_
        refine lv_aload_n hx hb dX6_putAside_13 rfl (lv_at hl 0 rfl) ?_
        refine va_get (D := D) (ci := 6) (v := .ref (ad 84)) (C := RX6) (T := TX6) (N := 17) hx hb hts iX6 hown hK.1 hP 81 (gW_6 kd81) rfl 2 (by decide) f16 (fun _ h9 => h9) rfl dX6_putAside_14 ?_
        refine lv_iload_n hx hb dX6_putAside_17 rfl (lv_at hl 1 rfl) ?_
        refine g_chk hs (fun hc hs => ?_)
        refine va_iald hx hb hK.1 hP 84 0 (gW_16 kd84) rfl hc dX6_putAside_18 ?_
        refine g_chk hs (fun hc hs => ?_)
        refine va_iast hx hb hK.1 hP (gD hI) hS 85 0 (gW_16 kd85) rfl hc dX6_putAside_19 (fun H locs hP _ hS => ?_)
        refine g_let hs (fun v_1 ev_1 hs => ?_)
        have hP : va_P D vwCl (gW cy ad v_1 u) H := gPset ((gS_16 kd85 w1.toNatClampNeg (v 84 w1.toNatClampNeg)).trans (congrArg (fun z => gW cy ad z u) ev_1.symm)) hP
        refine lv_iinc (v := w1 + 1) (lv' := [(1, .int (w1 + 1)), (0, .ref (ad 81))]) hx hb dX6_putAside_20 hl (k := 1) rfl rfl (by decide) rfl (fun ls hl => ?_)
        refine lv_goto (tgt := 2) hx hb dX6_putAside_23 (by decide) ?_
        exact ih v_1 (w1 + 1) _ _ _ hP hS (lv_sub hl [1, 0] rfl) hs
  unfold sX6_putAside at hs
  refine lv_iconst (v := 0) hx hb dX6_putAside_0 (by decide) ?_
  refine lv_istore_n (lv' := [(1, .int 0), (0, .ref (ad 81))]) hx hb dX6_putAside_1 rfl hl (by decide) rfl (fun ls hl => ?_)
  exact hL_2 n v 0 _ _ _ hP hS (lv_sub hl [1, 0] rfl) hs
set_option maxHeartbeats 4000000 in
set_option maxRecDepth 100000 in
theorem cX6_putBack_c (l : Launch) (D : va_G) (cy : Nat → ClassId) (ad : Nat → Nat) (tL z0 : Nat) (hI : gI z0 ad) (n : Nat) (v : gV) (u : Int64) (v1 : gV) (hs : sX6_putBack n v = some v1) : Met l yX6_putBack wsX6_putBack ({ frames := 0, cells := 0, slots := 0, locals := 0 } : Room) (gPc D cy ad tL z0 v u [.ref (ad 81)]) (gQv D cy ad tL z0 v1 u) 0 0 (gA z0) := by
  refine Met.ofW (cc := cX6_putBack) (maxL := 2) (ret := none) (by decide) rfl ?_
  intro p e s m args below meth c s₁ B hml hv
  obtain ⟨rfl, hB0⟩ := hv
  have hP : va_P D vwCl (gW cy ad v u) s.heap := hB0.1
  have hK : gK D cy tL z0 s s.heap := hB0.2
  have hx := B.exec
  have hb := B.bytes
  have hr := B.returns
  have hts := atoms_spec (ws := wsX6_putBack) B.pre
  have hown : s.vm.findClass RX6 = some m.cls := findClass_of_methodNamed B.named
  have hlocks := B.notSynchronized
  have hS : va_S (gA z0) s.heap s.heap [] := va_S.rf
  have hl := lv_entry ([.ref (ad 81)]) (n := 2) (Nat.le_of_ble_eq_true rfl)
  rw [lg_entry_eq]
  generalize (lg_sl ([.ref (ad 81)]) ++ List.replicate (2 - (lg_sl ([.ref (ad 81)])).length) Slot.unset).toArray = ls at hl ⊢
  have hl : lv_has ls 2 [(0, .ref (ad 81))] := hl
  have iX6 := (show ∀ w ∈ u_ws RX6 TX6 17, w ∈ wsX6_putBack by decide +kernel)
  have f16 := hts (.fieldLink RX6 16 "AdventureParserModel" "s" "[I") (by decide +kernel)
  have f19 := hts (.fieldLink RX6 19 "AdventureParserModel" "aside" "[I") (by decide +kernel)
  clear hB0
  have hL_2 : ∀ (k : Nat), ∀ (v : gV) (w1 : Int32) (H : Heap) (locs : List Loc) (ls : Array Slot), va_P D vwCl (gW cy ad v u) H → va_S (gA z0) s.heap H locs → lv_has ls 2 [(0, .ref (ad 81)), (1, .int w1)] → sX6_putBack_2 n k v w1 = some v1 → W p l e (headSpec wsX6_putBack ({ frames := 0, cells := 0, slots := 0, locals := 0 } : Room)).room s m ([.ref (ad 81)] : List Value).toArray below meth c H locs 0 0 (MQ below (gQv D cy ad tL z0 v1 u) ([.ref (ad 81)] : List Value).toArray s 0 0 (gA z0)) (F0 m 2 ls []) := by
    intro k
    induction k with
    | zero =>
      intro v w1 H locs ls hP hS hl hs
      exact g_none hs
    | succ k ih =>
      intro v w1 H locs ls hP hS hl hs
      rw [sX6_putBack_2] at hs
      refine lv_iload_n hx hb dX6_putBack_2 rfl (lv_at hl 1 rfl) ?_
      refine lv_bipush (v := 122) hx hb dX6_putBack_3 (by decide) ?_
      refine lv_icmp_ge (tgt := 26) hx hb dX6_putBack_5 (by decide) (fun hc => ?_) (fun hc => ?_)
      · have hs := g_t hs hc
        exact gRet_v hx hb hr hlocks hK hP hS (g_some hs) dX6_putBack_26
      · have hs := g_f hs hc
        refine lv_aload_n hx hb dX6_putBack_8 rfl (lv_at hl 0 rfl) ?_
        refine va_get (D := D) (ci := 6) (v := .ref (ad 84)) (C := RX6) (T := TX6) (N := 17) hx hb hts iX6 hown hK.1 hP 81 (gW_6 kd81) rfl 2 (by decide) f16 (fun _ h9 => h9) rfl dX6_putBack_9 ?_
        refine lv_iload_n hx hb dX6_putBack_12 rfl (lv_at hl 1 rfl) ?_
        refine lv_aload_n hx hb dX6_putBack_13 rfl (lv_at hl 0 rfl) ?_
        refine va_get (D := D) (ci := 6) (v := .ref (ad 85)) (C := RX6) (T := TX6) (N := 17) hx hb hts iX6 hown hK.1 hP 81 (gW_6 kd81) rfl 3 (by decide) f19 (fun _ h9 => h9) rfl dX6_putBack_14 ?_
        refine lv_iload_n hx hb dX6_putBack_17 rfl (lv_at hl 1 rfl) ?_
        refine g_chk hs (fun hc hs => ?_)
        refine va_iald hx hb hK.1 hP 85 0 (gW_16 kd85) rfl hc dX6_putBack_18 ?_
        refine g_chk hs (fun hc hs => ?_)
        refine va_iast hx hb hK.1 hP (gD hI) hS 84 0 (gW_16 kd84) rfl hc dX6_putBack_19 (fun H locs hP _ hS => ?_)
        refine g_let hs (fun v_1 ev_1 hs => ?_)
        have hP : va_P D vwCl (gW cy ad v_1 u) H := gPset ((gS_16 kd84 w1.toNatClampNeg (v 85 w1.toNatClampNeg)).trans (congrArg (fun z => gW cy ad z u) ev_1.symm)) hP
        refine lv_iinc (v := w1 + 1) (lv' := [(1, .int (w1 + 1)), (0, .ref (ad 81))]) hx hb dX6_putBack_20 hl (k := 1) rfl rfl (by decide) rfl (fun ls hl => ?_)
        refine lv_goto (tgt := 2) hx hb dX6_putBack_23 (by decide) ?_
        exact ih v_1 (w1 + 1) _ _ _ hP hS (lv_sub hl [1, 0] rfl) hs
  unfold sX6_putBack at hs
  refine lv_iconst (v := 0) hx hb dX6_putBack_0 (by decide) ?_
  refine lv_istore_n (lv' := [(1, .int 0), (0, .ref (ad 81))]) hx hb dX6_putBack_1 rfl hl (by decide) rfl (fun ls hl => ?_)
  exact hL_2 n v 0 _ _ _ hP hS (lv_sub hl [1, 0] rfl) hs
set_option maxHeartbeats 4000000 in
set_option maxRecDepth 100000 in
theorem cX6_save_c (l : Launch) (D : va_G) (cy : Nat → ClassId) (ad : Nat → Nat) (tL z0 : Nat) (hI : gI z0 ad) (n : Nat) (v : gV) (u : Int64) (v1 : gV) (hs : sX6_save n v = some v1) : Met l yX6_save wsX6_save ({ frames := 0, cells := 0, slots := 0, locals := 0 } : Room) (gPc D cy ad tL z0 v u [.ref (ad 81)]) (gQv D cy ad tL z0 v1 u) 0 0 (gA z0) := by
  refine Met.ofW (cc := cX6_save) (maxL := 2) (ret := none) (by decide) rfl ?_
  intro p e s m args below meth c s₁ B hml hv
  obtain ⟨rfl, hB0⟩ := hv
  have hP : va_P D vwCl (gW cy ad v u) s.heap := hB0.1
  have hK : gK D cy tL z0 s s.heap := hB0.2
  have hx := B.exec
  have hb := B.bytes
  have hr := B.returns
  have hts := atoms_spec (ws := wsX6_save) B.pre
  have hown : s.vm.findClass RX6 = some m.cls := findClass_of_methodNamed B.named
  have hlocks := B.notSynchronized
  have hS : va_S (gA z0) s.heap s.heap [] := va_S.rf
  have hl := lv_entry ([.ref (ad 81)]) (n := 2) (Nat.le_of_ble_eq_true rfl)
  rw [lg_entry_eq]
  generalize (lg_sl ([.ref (ad 81)]) ++ List.replicate (2 - (lg_sl ([.ref (ad 81)])).length) Slot.unset).toArray = ls at hl ⊢
  have hl : lv_has ls 2 [(0, .ref (ad 81))] := hl
  have iX6 := (show ∀ w ∈ u_ws RX6 TX6 17, w ∈ wsX6_save by decide +kernel)
  have f35 := hts (.fieldLink RX6 35 "AdventureParserModel" "known" "I") (by decide +kernel)
  have f22 := hts (.fieldLink RX6 22 "AdventureParserModel" "before" "[I") (by decide +kernel)
  have f16 := hts (.fieldLink RX6 16 "AdventureParserModel" "s" "[I") (by decide +kernel)
  clear hB0
  have hL_51 : ∀ (k : Nat), ∀ (v : gV) (w1 : Int32) (H : Heap) (locs : List Loc) (ls : Array Slot), va_P D vwCl (gW cy ad v u) H → va_S (gA z0) s.heap H locs → lv_has ls 2 [(0, .ref (ad 81)), (1, .int w1)] → sX6_save_51 n k v w1 = some v1 → W p l e (headSpec wsX6_save ({ frames := 0, cells := 0, slots := 0, locals := 0 } : Room)).room s m ([.ref (ad 81)] : List Value).toArray below meth c H locs 0 0 (MQ below (gQv D cy ad tL z0 v1 u) ([.ref (ad 81)] : List Value).toArray s 0 0 (gA z0)) (F0 m 51 ls []) := by
    intro k
    induction k with
    | zero =>
      intro v w1 H locs ls hP hS hl hs
      exact g_none hs
    | succ k ih =>
      intro v w1 H locs ls hP hS hl hs
      rw [sX6_save_51] at hs
      refine lv_iload_n hx hb dX6_save_51 rfl (lv_at hl 1 rfl) ?_
      refine lv_bipush (v := 122) hx hb dX6_save_52 (by decide) ?_
      refine lv_icmp_ge (tgt := 83) hx hb dX6_save_54 (by decide) (fun hc => ?_) (fun hc => ?_)
      · have hs := g_t hs hc
        refine lv_aload_n hx hb dX6_save_83 rfl (lv_at hl 0 rfl) ?_
        refine lv_dup hx hb dX6_save_84 rfl ?_
        refine va_get (D := D) (ci := 6) (v := .int (v 81 5)) (C := RX6) (T := TX6) (N := 17) hx hb hts iX6 hown hK.1 hP 81 (gW_6 kd81) rfl 5 (by decide) f35 (fun _ h9 => h9) rfl dX6_save_85 ?_
        refine lv_iconst (v := 1) hx hb dX6_save_88 (by decide) ?_
        refine lv_iadd hx hb dX6_save_89 ?_
        refine va_put (D := D) (ci := 6) (v := .int ((v 81 5) + 1)) (ty := .int) (C := RX6) (T := TX6) (N := 17) hx hb hts iX6 tyX6 tyX6_ok nmX6 hown hK.1 hP (gD hI) hS 81 (gW_6 kd81) rfl 5 (by decide) f35 (fun _ h9 => h9) rfl (by decide +kernel) rfl rfl (Nat.le_of_ble_eq_true rfl) dX6_save_90 (fun H locs hP _ hS => ?_)
        refine g_let hs (fun v_1 ev_1 hs => ?_)
        have hP : va_P D vwCl (gW cy ad v_1 u) H := gPset ((gS_6_5 kd81 ((v 81 5) + 1)).trans (congrArg (fun z => gW cy ad z u) ev_1.symm)) hP
        exact gRet_v hx hb hr hlocks hK hP hS (g_some hs) dX6_save_93
      · have hs := g_f hs hc
        refine lv_aload_n hx hb dX6_save_57 rfl (lv_at hl 0 rfl) ?_
        refine va_get (D := D) (ci := 6) (v := .ref (ad 86)) (C := RX6) (T := TX6) (N := 17) hx hb hts iX6 hown hK.1 hP 81 (gW_6 kd81) rfl 4 (by decide) f22 (fun _ h9 => h9) rfl dX6_save_58 ?_
        refine lv_bipush (v := 122) hx hb dX6_save_61 (by decide) ?_
        refine lv_aload_n hx hb dX6_save_63 rfl (lv_at hl 0 rfl) ?_
        refine va_get (D := D) (ci := 6) (v := .int (v 81 5)) (C := RX6) (T := TX6) (N := 17) hx hb hts iX6 hown hK.1 hP 81 (gW_6 kd81) rfl 5 (by decide) f35 (fun _ h9 => h9) rfl dX6_save_64 ?_
        refine lv_imul hx hb dX6_save_67 ?_
        refine lv_iload_n hx hb dX6_save_68 rfl (lv_at hl 1 rfl) ?_
        refine lv_iadd hx hb dX6_save_69 ?_
        refine lv_aload_n hx hb dX6_save_70 rfl (lv_at hl 0 rfl) ?_
        refine va_get (D := D) (ci := 6) (v := .ref (ad 84)) (C := RX6) (T := TX6) (N := 17) hx hb hts iX6 hown hK.1 hP 81 (gW_6 kd81) rfl 2 (by decide) f16 (fun _ h9 => h9) rfl dX6_save_71 ?_
        refine lv_iload_n hx hb dX6_save_74 rfl (lv_at hl 1 rfl) ?_
        refine g_chk hs (fun hc hs => ?_)
        refine va_iald hx hb hK.1 hP 84 0 (gW_16 kd84) rfl hc dX6_save_75 ?_
        refine g_chk hs (fun hc hs => ?_)
        refine va_iast hx hb hK.1 hP (gD hI) hS 86 0 (gW_17 kd86) rfl hc dX6_save_76 (fun H locs hP _ hS => ?_)
        refine g_let hs (fun v_2 ev_2 hs => ?_)
        have hP : va_P D vwCl (gW cy ad v_2 u) H := gPset ((gS_17 kd86 ((122 * (v 81 5)) + w1).toNatClampNeg (v 84 w1.toNatClampNeg)).trans (congrArg (fun z => gW cy ad z u) ev_2.symm)) hP
        refine lv_iinc (v := w1 + 1) (lv' := [(1, .int (w1 + 1)), (0, .ref (ad 81))]) hx hb dX6_save_77 hl (k := 1) rfl rfl (by decide) rfl (fun ls hl => ?_)
        refine lv_goto (tgt := 51) hx hb dX6_save_80 (by decide) ?_
        exact ih v_2 (w1 + 1) _ _ _ hP hS (lv_sub hl [1, 0] rfl) hs
  have hL_11 : ∀ (k : Nat), ∀ (v : gV) (w1 : Int32) (H : Heap) (locs : List Loc) (ls : Array Slot), va_P D vwCl (gW cy ad v u) H → va_S (gA z0) s.heap H locs → lv_has ls 2 [(0, .ref (ad 81)), (1, .int w1)] → sX6_save_11 n k v w1 = some v1 → W p l e (headSpec wsX6_save ({ frames := 0, cells := 0, slots := 0, locals := 0 } : Room)).room s m ([.ref (ad 81)] : List Value).toArray below meth c H locs 0 0 (MQ below (gQv D cy ad tL z0 v1 u) ([.ref (ad 81)] : List Value).toArray s 0 0 (gA z0)) (F0 m 11 ls []) := by
    intro k
    induction k with
    | zero =>
      intro v w1 H locs ls hP hS hl hs
      exact g_none hs
    | succ k ih =>
      intro v w1 H locs ls hP hS hl hs
      rw [sX6_save_11] at hs
      refine lv_iload_n hx hb dX6_save_11 rfl (lv_at hl 1 rfl) ?_
      refine lv_sipush (v := 610) hx hb dX6_save_12 (by decide) ?_
      refine lv_icmp_ge (tgt := 39) hx hb dX6_save_15 (by decide) (fun hc => ?_) (fun hc => ?_)
      · have hs := g_t hs hc
        refine lv_aload_n hx hb dX6_save_39 rfl (lv_at hl 0 rfl) ?_
        refine lv_dup hx hb dX6_save_40 rfl ?_
        refine va_get (D := D) (ci := 6) (v := .int (v 81 5)) (C := RX6) (T := TX6) (N := 17) hx hb hts iX6 hown hK.1 hP 81 (gW_6 kd81) rfl 5 (by decide) f35 (fun _ h9 => h9) rfl dX6_save_41 ?_
        refine lv_iconst (v := 1) hx hb dX6_save_44 (by decide) ?_
        refine lv_isub hx hb dX6_save_45 ?_
        refine va_put (D := D) (ci := 6) (v := .int ((v 81 5) - 1)) (ty := .int) (C := RX6) (T := TX6) (N := 17) hx hb hts iX6 tyX6 tyX6_ok nmX6 hown hK.1 hP (gD hI) hS 81 (gW_6 kd81) rfl 5 (by decide) f35 (fun _ h9 => h9) rfl (by decide +kernel) rfl rfl (Nat.le_of_ble_eq_true rfl) dX6_save_46 (fun H locs hP _ hS => ?_)
        refine g_let hs (fun v_3 ev_3 hs => ?_)
        have hP : va_P D vwCl (gW cy ad v_3 u) H := gPset ((gS_6_5 kd81 ((v 81 5) - 1)).trans (congrArg (fun z => gW cy ad z u) ev_3.symm)) hP
        refine lv_iconst (v := 0) hx hb dX6_save_49 (by decide) ?_
        refine lv_istore_n (lv' := [(1, .int 0), (0, .ref (ad 81))]) hx hb dX6_save_50 rfl hl (by decide) rfl (fun ls hl => ?_)
        exact hL_51 n v_3 0 _ _ _ hP hS (lv_sub hl [1, 0] rfl) hs
      · have hs := g_f hs hc
        refine lv_aload_n hx hb dX6_save_18 rfl (lv_at hl 0 rfl) ?_
        refine va_get (D := D) (ci := 6) (v := .ref (ad 86)) (C := RX6) (T := TX6) (N := 17) hx hb hts iX6 hown hK.1 hP 81 (gW_6 kd81) rfl 4 (by decide) f22 (fun _ h9 => h9) rfl dX6_save_19 ?_
        refine lv_iload_n hx hb dX6_save_22 rfl (lv_at hl 1 rfl) ?_
        refine lv_aload_n hx hb dX6_save_23 rfl (lv_at hl 0 rfl) ?_
        refine va_get (D := D) (ci := 6) (v := .ref (ad 86)) (C := RX6) (T := TX6) (N := 17) hx hb hts iX6 hown hK.1 hP 81 (gW_6 kd81) rfl 4 (by decide) f22 (fun _ h9 => h9) rfl dX6_save_24 ?_
        refine lv_bipush (v := 122) hx hb dX6_save_27 (by decide) ?_
        refine lv_iload_n hx hb dX6_save_29 rfl (lv_at hl 1 rfl) ?_
        refine lv_iadd hx hb dX6_save_30 ?_
        refine g_chk hs (fun hc hs => ?_)
        refine va_iald hx hb hK.1 hP 86 0 (gW_17 kd86) rfl hc dX6_save_31 ?_
        refine g_chk hs (fun hc hs => ?_)
        refine va_iast hx hb hK.1 hP (gD hI) hS 86 0 (gW_17 kd86) rfl hc dX6_save_32 (fun H locs hP _ hS => ?_)
        refine g_let hs (fun v_4 ev_4 hs => ?_)
        have hP : va_P D vwCl (gW cy ad v_4 u) H := gPset ((gS_17 kd86 w1.toNatClampNeg (v 86 (122 + w1).toNatClampNeg)).trans (congrArg (fun z => gW cy ad z u) ev_4.symm)) hP
        refine lv_iinc (v := w1 + 1) (lv' := [(1, .int (w1 + 1)), (0, .ref (ad 81))]) hx hb dX6_save_33 hl (k := 1) rfl rfl (by decide) rfl (fun ls hl => ?_)
        refine lv_goto (tgt := 11) hx hb dX6_save_36 (by decide) ?_
        exact ih v_4 (w1 + 1) _ _ _ hP hS (lv_sub hl [1, 0] rfl) hs
  unfold sX6_save at hs
  refine lv_aload_n hx hb dX6_save_0 rfl (lv_at hl 0 rfl) ?_
  refine va_get (D := D) (ci := 6) (v := .int (v 81 5)) (C := RX6) (T := TX6) (N := 17) hx hb hts iX6 hown hK.1 hP 81 (gW_6 kd81) rfl 5 (by decide) f35 (fun _ h9 => h9) rfl dX6_save_1 ?_
  refine lv_bipush (v := 6) hx hb dX6_save_4 (by decide) ?_
  refine lv_icmp_ne (tgt := 49) hx hb dX6_save_6 (by decide) (fun hc => ?_) (fun hc => ?_)
  · have hs := g_f hs hc
    refine lv_iconst (v := 0) hx hb dX6_save_49 (by decide) ?_
    refine lv_istore_n (lv' := [(1, .int 0), (0, .ref (ad 81))]) hx hb dX6_save_50 rfl hl (by decide) rfl (fun ls hl => ?_)
    exact hL_51 n v 0 _ _ _ hP hS (lv_sub hl [1, 0] rfl) hs
  · have hs := g_t hs hc
    refine lv_iconst (v := 0) hx hb dX6_save_9 (by decide) ?_
    refine lv_istore_n (lv' := [(1, .int 0), (0, .ref (ad 81))]) hx hb dX6_save_10 rfl hl (by decide) rfl (fun ls hl => ?_)
    exact hL_11 n v 0 _ _ _ hP hS (lv_sub hl [1, 0] rfl) hs
set_option maxHeartbeats 4000000 in
set_option maxRecDepth 100000 in
theorem cX6_of_c (l : Launch) (D : va_G) (cy : Nat → ClassId) (ad : Nat → Nat) (tL z0 : Nat) (hI : gI z0 ad) (v : gV) (u : Int64) (x1 : Int32) (x2 : Int32) (r0 : Int32) (hs : sX6_of v x1 x2 = some r0) : Met l yX6_of wsX6_of ({ frames := 0, cells := 0, slots := 0, locals := 0 } : Room) (gPc D cy ad tL z0 v u [.ref (ad 81), .int x1, .int x2]) (gQi D cy ad tL z0 v u r0) 0 0 (gA z0) := by
  refine Met.ofW (cc := cX6_of) (maxL := 3) (ret := (some .int)) (by decide) rfl ?_
  intro p e s m args below meth c s₁ B hml hv
  obtain ⟨rfl, hB0⟩ := hv
  have hP : va_P D vwCl (gW cy ad v u) s.heap := hB0.1
  have hK : gK D cy tL z0 s s.heap := hB0.2
  have hx := B.exec
  have hb := B.bytes
  have hr := B.returns
  have hts := atoms_spec (ws := wsX6_of) B.pre
  have hown : s.vm.findClass RX6 = some m.cls := findClass_of_methodNamed B.named
  have hlocks := B.notSynchronized
  have hS : va_S (gA z0) s.heap s.heap [] := va_S.rf
  have hl := lv_entry ([.ref (ad 81), .int x1, .int x2]) (n := 3) (Nat.le_of_ble_eq_true rfl)
  rw [lg_entry_eq]
  generalize (lg_sl ([.ref (ad 81), .int x1, .int x2]) ++ List.replicate (3 - (lg_sl ([.ref (ad 81), .int x1, .int x2])).length) Slot.unset).toArray = ls at hl ⊢
  have hl : lv_has ls 3 [(0, .ref (ad 81)), (1, .int x1), (2, .int x2)] := hl
  have iX6 := (show ∀ w ∈ u_ws RX6 TX6 17, w ∈ wsX6_of by decide +kernel)
  have f16 := hts (.fieldLink RX6 16 "AdventureParserModel" "s" "[I") (by decide +kernel)
  clear hB0
  unfold sX6_of at hs
  refine lv_aload_n hx hb dX6_of_0 rfl (lv_at hl 0 rfl) ?_
  refine va_get (D := D) (ci := 6) (v := .ref (ad 84)) (C := RX6) (T := TX6) (N := 17) hx hb hts iX6 hown hK.1 hP 81 (gW_6 kd81) rfl 2 (by decide) f16 (fun _ h9 => h9) rfl dX6_of_1 ?_
  refine lv_iconst (v := 1) hx hb dX6_of_4 (by decide) ?_
  refine lv_iconst (v := 4) hx hb dX6_of_5 (by decide) ?_
  refine lv_iload_n hx hb dX6_of_6 rfl (lv_at hl 1 rfl) ?_
  refine lv_imul hx hb dX6_of_7 ?_
  refine lv_iadd hx hb dX6_of_8 ?_
  refine lv_iload_n hx hb dX6_of_9 rfl (lv_at hl 2 rfl) ?_
  refine lv_iadd hx hb dX6_of_10 ?_
  refine g_chk hs (fun hc hs => ?_)
  refine va_iald hx hb hK.1 hP 84 0 (gW_16 kd84) rfl hc dX6_of_11 ?_
  exact gRet_i hx hb hr hlocks hK hP hS ⟨g_some hs, rfl⟩ dX6_of_12
set_option maxHeartbeats 4000000 in
set_option maxRecDepth 100000 in
theorem cX6_isObject_c (l : Launch) (D : va_G) (cy : Nat → ClassId) (ad : Nat → Nat) (tL z0 : Nat) (hI : gI z0 ad) (v : gV) (u : Int64) (x1 : Int32) (r0 : Int32) (hs : sX6_isObject v x1 = some r0) : Met l yX6_isObject wsX6_isObject ({ frames := 1, cells := 0, slots := 0, locals := 22 } : Room) (gPc D cy ad tL z0 v u [.ref (ad 81), .int x1]) (gQi D cy ad tL z0 v u r0) 0 0 (gA z0) := by
  refine Met.ofW (cc := cX6_isObject) (maxL := 2) (ret := (some .boolean)) (by decide) rfl ?_
  intro p e s m args below meth c s₁ B hml hv
  obtain ⟨rfl, hB0⟩ := hv
  have hP : va_P D vwCl (gW cy ad v u) s.heap := hB0.1
  have hK : gK D cy tL z0 s s.heap := hB0.2
  have hx := B.exec
  have hb := B.bytes
  have hr := B.returns
  have hts := atoms_spec (ws := wsX6_isObject) B.pre
  have hown : s.vm.findClass RX6 = some m.cls := findClass_of_methodNamed B.named
  have hlocks := B.notSynchronized
  have hS : va_S (gA z0) s.heap s.heap [] := va_S.rf
  have hl := lv_entry ([.ref (ad 81), .int x1]) (n := 2) (Nat.le_of_ble_eq_true rfl)
  rw [lg_entry_eq]
  generalize (lg_sl ([.ref (ad 81), .int x1]) ++ List.replicate (2 - (lg_sl ([.ref (ad 81), .int x1])).length) Slot.unset).toArray = ls at hl ⊢
  have hl : lv_has ls 2 [(0, .ref (ad 81)), (1, .int x1)] := hl
  have iX6 := (show ∀ w ∈ u_ws RX6 TX6 17, w ∈ wsX6_isObject by decide +kernel)
  have f16 := hts (.fieldLink RX6 16 "AdventureParserModel" "s" "[I") (by decide +kernel)
  clear hB0
  unfold sX6_isObject at hs
  refine lv_iload_n hx hb dX6_isObject_0 rfl (lv_at hl 1 rfl) ?_
  refine lv_iconst (v := 0) hx hb dX6_isObject_1 (by decide) ?_
  refine lv_aload_n hx hb dX6_isObject_2 rfl (lv_at hl 0 rfl) ?_
  refine va_get (D := D) (ci := 6) (v := .ref (ad 84)) (C := RX6) (T := TX6) (N := 17) hx hb hts iX6 hown hK.1 hP 81 (gW_6 kd81) rfl 2 (by decide) f16 (fun _ h9 => h9) rfl dX6_isObject_3 ?_
  refine lv_iconst (v := 0) hx hb dX6_isObject_6 (by decide) ?_
  refine va_iald (i := 0) hx hb hK.1 hP 84 0 (gW_16 kd84) rfl (by unfold vp_in; decide) dX6_isObject_7 ?_
  refine lv_iconst (v := 1) hx hb dX6_isObject_8 (by decide) ?_
  refine lv_isub hx hb dX6_isObject_9 ?_
  refine g_bind hs (fun q_1 hq_1 hs => ?_)
  refine gCS_i (As := [.int x1, .int 0, .int ((v 84 0) - 1)]) (rest := []) ⟨hx, hb, hml, hown, hts⟩ (cX6_in_c l D cy ad tL z0 hI v u x1 0 ((v 84 0) - 1) q_1 hq_1) (va_cwS 3 hts gX6_isObject_X6_in rfl rfl rfl (by decide +kernel) ⟨Nat.le_of_ble_eq_true rfl, Nat.le_of_ble_eq_true rfl⟩) hK hP hS hl.1 rfl rfl (Nat.le_of_ble_eq_true rfl) dX6_isObject_10 ⟨Nat.zero_le _, Nat.zero_le _⟩ (fun H locs hP hS => ?_)
  refine g_chk hs (fun hc hs => ?_)
  exact gRet_z hx hb hr hlocks (g_nz hc) hK hP hS ⟨g_some hs, rfl⟩ dX6_isObject_13
set_option maxHeartbeats 4000000 in
set_option maxRecDepth 100000 in
theorem cX6_isContainer_c (l : Launch) (D : va_G) (cy : Nat → ClassId) (ad : Nat → Nat) (tL z0 : Nat) (hI : gI z0 ad) (v : gV) (u : Int64) (x1 : Int32) (r0 : Int32) (hs : sX6_isContainer v x1 = some r0) : Met l yX6_isContainer wsX6_isContainer ({ frames := 1, cells := 0, slots := 0, locals := 22 } : Room) (gPc D cy ad tL z0 v u [.ref (ad 81), .int x1]) (gQi D cy ad tL z0 v u r0) 0 0 (gA z0) := by
  refine Met.ofW (cc := cX6_isContainer) (maxL := 2) (ret := (some .boolean)) (by decide) rfl ?_
  intro p e s m args below meth c s₁ B hml hv
  obtain ⟨rfl, hB0⟩ := hv
  have hP : va_P D vwCl (gW cy ad v u) s.heap := hB0.1
  have hK : gK D cy tL z0 s s.heap := hB0.2
  have hx := B.exec
  have hb := B.bytes
  have hr := B.returns
  have hts := atoms_spec (ws := wsX6_isContainer) B.pre
  have hown : s.vm.findClass RX6 = some m.cls := findClass_of_methodNamed B.named
  have hlocks := B.notSynchronized
  have hS : va_S (gA z0) s.heap s.heap [] := va_S.rf
  have hl := lv_entry ([.ref (ad 81), .int x1]) (n := 2) (Nat.le_of_ble_eq_true rfl)
  rw [lg_entry_eq]
  generalize (lg_sl ([.ref (ad 81), .int x1]) ++ List.replicate (2 - (lg_sl ([.ref (ad 81), .int x1])).length) Slot.unset).toArray = ls at hl ⊢
  have hl : lv_has ls 2 [(0, .ref (ad 81)), (1, .int x1)] := hl
  clear hB0
  unfold sX6_isContainer at hs
  refine lv_aload_n hx hb dX6_isContainer_0 rfl (lv_at hl 0 rfl) ?_
  refine lv_iload_n hx hb dX6_isContainer_1 rfl (lv_at hl 1 rfl) ?_
  refine lv_iconst (v := 0) hx hb dX6_isContainer_2 (by decide) ?_
  refine g_bind hs (fun q_1 hq_1 hs => ?_)
  refine gCV_i (As := [.int x1, .int 0]) (rest := []) ⟨hx, hb, hml, hown, hts⟩ (cX6_of_c l D cy ad tL z0 hI v u x1 0 q_1 hq_1) (cwV 2 hts gX6_isContainer_X6_of rfl rfl rfl (by decide +kernel) ⟨Nat.le_of_ble_eq_true rfl, Nat.le_of_ble_eq_true rfl⟩) hK hP hS (va_recv hK.1 hP (ci := 6) (q0 := 81) rfl (gW_6 kd81)) hl.1 rfl rfl (Nat.le_of_ble_eq_true rfl) dX6_isContainer_3 ⟨Nat.zero_le _, Nat.zero_le _⟩ (fun H locs hP hS => ?_)
  refine lv_iconst (v := 1) hx hb dX6_isContainer_6 (by decide) ?_
  refine lv_icmp_eq (tgt := 20) hx hb dX6_isContainer_7 (by decide) (fun hc => ?_) (fun hc => ?_)
  · have hs := g_t hs hc
    refine lv_iconst (v := 1) hx hb dX6_isContainer_20 (by decide) ?_
    refine lv_goto (tgt := 25) hx hb dX6_isContainer_21 (by decide) ?_
    exact gRet_z hx hb hr hlocks rfl hK hP hS ⟨g_some hs, rfl⟩ dX6_isContainer_25
  · have hs := g_f hs hc
    refine lv_aload_n hx hb dX6_isContainer_10 rfl (lv_at hl 0 rfl) ?_
    refine lv_iload_n hx hb dX6_isContainer_11 rfl (lv_at hl 1 rfl) ?_
    refine lv_iconst (v := 0) hx hb dX6_isContainer_12 (by decide) ?_
    refine g_bind hs (fun q_2 hq_2 hs => ?_)
    refine gCV_i (As := [.int x1, .int 0]) (rest := []) ⟨hx, hb, hml, hown, hts⟩ (cX6_of_c l D cy ad tL z0 hI v u x1 0 q_2 hq_2) (cwV 2 hts gX6_isContainer_X6_of rfl rfl rfl (by decide +kernel) ⟨Nat.le_of_ble_eq_true rfl, Nat.le_of_ble_eq_true rfl⟩) hK hP hS (va_recv hK.1 hP (ci := 6) (q0 := 81) rfl (gW_6 kd81)) hl.1 rfl rfl (Nat.le_of_ble_eq_true rfl) dX6_isContainer_13 ⟨Nat.zero_le _, Nat.zero_le _⟩ (fun H locs hP hS => ?_)
    refine lv_iconst (v := 5) hx hb dX6_isContainer_16 (by decide) ?_
    refine lv_icmp_ne (tgt := 24) hx hb dX6_isContainer_17 (by decide) (fun hc => ?_) (fun hc => ?_)
    · have hs := g_f hs hc
      refine lv_iconst (v := 0) hx hb dX6_isContainer_24 (by decide) ?_
      exact gRet_z hx hb hr hlocks rfl hK hP hS ⟨g_some hs, rfl⟩ dX6_isContainer_25
    · have hs := g_t hs hc
      refine lv_iconst (v := 1) hx hb dX6_isContainer_20 (by decide) ?_
      refine lv_goto (tgt := 25) hx hb dX6_isContainer_21 (by decide) ?_
      exact gRet_z hx hb hr hlocks rfl hK hP hS ⟨g_some hs, rfl⟩ dX6_isContainer_25
set_option maxHeartbeats 4000000 in
set_option maxRecDepth 100000 in
theorem cX6_at_c (l : Launch) (D : va_G) (cy : Nat → ClassId) (ad : Nat → Nat) (tL z0 : Nat) (hI : gI z0 ad) (n : Nat) (v : gV) (u : Int64) (x1 : Int32) (r0 : Int32) (hs : sX6_at n v x1 = some r0) : Met l yX6_at wsX6_at ({ frames := 1, cells := 0, slots := 0, locals := 22 } : Room) (gPc D cy ad tL z0 v u [.ref (ad 81), .int x1]) (gQi D cy ad tL z0 v u r0) 0 0 (gA z0) := by
  refine Met.ofW (cc := cX6_at) (maxL := 4) (ret := (some .int)) (by decide) rfl ?_
  intro p e s m args below meth c s₁ B hml hv
  obtain ⟨rfl, hB0⟩ := hv
  have hP : va_P D vwCl (gW cy ad v u) s.heap := hB0.1
  have hK : gK D cy tL z0 s s.heap := hB0.2
  have hx := B.exec
  have hb := B.bytes
  have hr := B.returns
  have hts := atoms_spec (ws := wsX6_at) B.pre
  have hown : s.vm.findClass RX6 = some m.cls := findClass_of_methodNamed B.named
  have hlocks := B.notSynchronized
  have hS : va_S (gA z0) s.heap s.heap [] := va_S.rf
  have hl := lv_entry ([.ref (ad 81), .int x1]) (n := 4) (Nat.le_of_ble_eq_true rfl)
  rw [lg_entry_eq]
  generalize (lg_sl ([.ref (ad 81), .int x1]) ++ List.replicate (4 - (lg_sl ([.ref (ad 81), .int x1])).length) Slot.unset).toArray = ls at hl ⊢
  have hl : lv_has ls 4 [(0, .ref (ad 81)), (1, .int x1)] := hl
  have iX6 := (show ∀ w ∈ u_ws RX6 TX6 17, w ∈ wsX6_at by decide +kernel)
  have f16 := hts (.fieldLink RX6 16 "AdventureParserModel" "s" "[I") (by decide +kernel)
  clear hB0
  have hL_4 : ∀ (k : Nat), ∀ (w1 : Int32) (w2 : Int32) (w3 : Int32) (H : Heap) (locs : List Loc) (ls : Array Slot), va_P D vwCl (gW cy ad v u) H → va_S (gA z0) s.heap H locs → lv_has ls 4 [(0, .ref (ad 81)), (1, .int w1), (2, .int w2), (3, .int w3)] → sX6_at_4 n k v w1 w2 w3 = some r0 → W p l e (headSpec wsX6_at ({ frames := 1, cells := 0, slots := 0, locals := 22 } : Room)).room s m ([.ref (ad 81), .int x1] : List Value).toArray below meth c H locs 0 0 (MQ below (gQi D cy ad tL z0 v u r0) ([.ref (ad 81), .int x1] : List Value).toArray s 0 0 (gA z0)) (F0 m 4 ls []) := by
    intro k
    induction k with
    | zero =>
      intro w1 w2 w3 H locs ls hP hS hl hs
      exact g_none hs
    | succ k ih =>
      intro w1 w2 w3 H locs ls hP hS hl hs
      rw [sX6_at_4] at hs
      refine lv_iload_n hx hb dX6_at_4 rfl (lv_at hl 3 rfl) ?_
      refine lv_aload_n hx hb dX6_at_5 rfl (lv_at hl 0 rfl) ?_
      refine va_get (D := D) (ci := 6) (v := .ref (ad 84)) (C := RX6) (T := TX6) (N := 17) hx hb hts iX6 hown hK.1 hP 81 (gW_6 kd81) rfl 2 (by decide) f16 (fun _ h9 => h9) rfl dX6_at_6 ?_
      refine lv_iconst (v := 0) hx hb dX6_at_9 (by decide) ?_
      refine va_iald (i := 0) hx hb hK.1 hP 84 0 (gW_16 kd84) rfl (by unfold vp_in; decide) dX6_at_10 ?_
      refine lv_icmp_ge (tgt := 38) hx hb dX6_at_11 (by decide) (fun hc => ?_) (fun hc => ?_)
      · have hs := g_t hs hc
        refine lv_iload_n hx hb dX6_at_38 rfl (lv_at hl 2 rfl) ?_
        exact gRet_i hx hb hr hlocks hK hP hS ⟨g_some hs, rfl⟩ dX6_at_39
      · have hs := g_f hs hc
        refine lv_iload_n hx hb dX6_at_14 rfl (lv_at hl 2 rfl) ?_
        refine lv_aload_n hx hb dX6_at_15 rfl (lv_at hl 0 rfl) ?_
        refine lv_iload_n hx hb dX6_at_16 rfl (lv_at hl 3 rfl) ?_
        refine lv_iconst (v := 2) hx hb dX6_at_17 (by decide) ?_
        refine g_bind hs (fun q_1 hq_1 hs => ?_)
        refine gCV_i (As := [.int w3, .int 2]) (rest := [.int w2]) ⟨hx, hb, hml, hown, hts⟩ (cX6_of_c l D cy ad tL z0 hI v u w3 2 q_1 hq_1) (cwV 2 hts gX6_at_X6_of rfl rfl rfl (by decide +kernel) ⟨Nat.le_of_ble_eq_true rfl, Nat.le_of_ble_eq_true rfl⟩) hK hP hS (va_recv hK.1 hP (ci := 6) (q0 := 81) rfl (gW_6 kd81)) hl.1 rfl rfl (Nat.le_of_ble_eq_true rfl) dX6_at_18 ⟨Nat.zero_le _, Nat.zero_le _⟩ (fun H locs hP hS => ?_)
        refine lv_iload_n hx hb dX6_at_21 rfl (lv_at hl 1 rfl) ?_
        refine lv_icmp_ne (tgt := 29) hx hb dX6_at_22 (by decide) (fun hc => ?_) (fun hc => ?_)
        · have hs := g_f hs hc
          refine lv_iconst (v := 0) hx hb dX6_at_29 (by decide) ?_
          refine lv_iadd hx hb dX6_at_30 ?_
          refine lv_istore_n (lv' := [(2, .int (w2 + 0)), (0, .ref (ad 81)), (1, .int w1), (3, .int w3)]) hx hb dX6_at_31 rfl hl (by decide) rfl (fun ls hl => ?_)
          refine lv_iinc (v := w3 + 1) (lv' := [(3, .int (w3 + 1)), (2, .int (w2 + 0)), (0, .ref (ad 81)), (1, .int w1)]) hx hb dX6_at_32 hl (k := 3) rfl rfl (by decide) rfl (fun ls hl => ?_)
          refine lv_goto (tgt := 4) hx hb dX6_at_35 (by decide) ?_
          exact ih w1 (w2 + 0) (w3 + 1) _ _ _ hP hS (lv_sub hl [2, 3, 1, 0] rfl) hs
        · have hs := g_t hs hc
          refine lv_iconst (v := 1) hx hb dX6_at_25 (by decide) ?_
          refine lv_goto (tgt := 30) hx hb dX6_at_26 (by decide) ?_
          refine lv_iadd hx hb dX6_at_30 ?_
          refine lv_istore_n (lv' := [(2, .int (w2 + 1)), (0, .ref (ad 81)), (1, .int w1), (3, .int w3)]) hx hb dX6_at_31 rfl hl (by decide) rfl (fun ls hl => ?_)
          refine lv_iinc (v := w3 + 1) (lv' := [(3, .int (w3 + 1)), (2, .int (w2 + 1)), (0, .ref (ad 81)), (1, .int w1)]) hx hb dX6_at_32 hl (k := 3) rfl rfl (by decide) rfl (fun ls hl => ?_)
          refine lv_goto (tgt := 4) hx hb dX6_at_35 (by decide) ?_
          exact ih w1 (w2 + 1) (w3 + 1) _ _ _ hP hS (lv_sub hl [2, 3, 1, 0] rfl) hs
  unfold sX6_at at hs
  refine lv_iconst (v := 0) hx hb dX6_at_0 (by decide) ?_
  refine lv_istore_n (lv' := [(2, .int 0), (0, .ref (ad 81)), (1, .int x1)]) hx hb dX6_at_1 rfl hl (by decide) rfl (fun ls hl => ?_)
  refine lv_iconst (v := 0) hx hb dX6_at_2 (by decide) ?_
  refine lv_istore_n (lv' := [(3, .int 0), (2, .int 0), (0, .ref (ad 81)), (1, .int x1)]) hx hb dX6_at_3 rfl hl (by decide) rfl (fun ls hl => ?_)
  exact hL_4 n x1 0 0 _ _ _ hP hS (lv_sub hl [2, 3, 1, 0] rfl) hs
set_option maxHeartbeats 4000000 in
set_option maxRecDepth 100000 in
theorem cX6_isNear_c (l : Launch) (D : va_G) (cy : Nat → ClassId) (ad : Nat → Nat) (tL z0 : Nat) (hI : gI z0 ad) (v : gV) (u : Int64) (x1 : Int32) (r0 : Int32) (hs : sX6_isNear v x1 = some r0) : Met l yX6_isNear wsX6_isNear ({ frames := 0, cells := 0, slots := 0, locals := 0 } : Room) (gPc D cy ad tL z0 v u [.ref (ad 81), .int x1]) (gQi D cy ad tL z0 v u r0) 0 0 (gA z0) := by
  refine Met.ofW (cc := cX6_isNear) (maxL := 2) (ret := (some .boolean)) (by decide) rfl ?_
  intro p e s m args below meth c s₁ B hml hv
  obtain ⟨rfl, hB0⟩ := hv
  have hP : va_P D vwCl (gW cy ad v u) s.heap := hB0.1
  have hK : gK D cy tL z0 s s.heap := hB0.2
  have hx := B.exec
  have hb := B.bytes
  have hr := B.returns
  have hts := atoms_spec (ws := wsX6_isNear) B.pre
  have hown : s.vm.findClass RX6 = some m.cls := findClass_of_methodNamed B.named
  have hlocks := B.notSynchronized
  have hS : va_S (gA z0) s.heap s.heap [] := va_S.rf
  have hl := lv_entry ([.ref (ad 81), .int x1]) (n := 2) (Nat.le_of_ble_eq_true rfl)
  rw [lg_entry_eq]
  generalize (lg_sl ([.ref (ad 81), .int x1]) ++ List.replicate (2 - (lg_sl ([.ref (ad 81), .int x1])).length) Slot.unset).toArray = ls at hl ⊢
  have hl : lv_has ls 2 [(0, .ref (ad 81)), (1, .int x1)] := hl
  have iX6 := (show ∀ w ∈ u_ws RX6 TX6 17, w ∈ wsX6_isNear by decide +kernel)
  have f16 := hts (.fieldLink RX6 16 "AdventureParserModel" "s" "[I") (by decide +kernel)
  clear hB0
  unfold sX6_isNear at hs
  refine lv_iload_n hx hb dX6_isNear_0 rfl (lv_at hl 1 rfl) ?_
  refine lv_aload_n hx hb dX6_isNear_1 rfl (lv_at hl 0 rfl) ?_
  refine va_get (D := D) (ci := 6) (v := .ref (ad 84)) (C := RX6) (T := TX6) (N := 17) hx hb hts iX6 hown hK.1 hP 81 (gW_6 kd81) rfl 2 (by decide) f16 (fun _ h9 => h9) rfl dX6_isNear_2 ?_
  refine lv_bipush (v := 49) hx hb dX6_isNear_5 (by decide) ?_
  refine va_iald (i := 49) hx hb hK.1 hP 84 0 (gW_16 kd84) rfl (by unfold vp_in; decide) dX6_isNear_7 ?_
  refine lv_icmp_eq (tgt := 16) hx hb dX6_isNear_8 (by decide) (fun hc => ?_) (fun hc => ?_)
  · have hs := g_t hs hc
    refine lv_iconst (v := 1) hx hb dX6_isNear_16 (by decide) ?_
    refine lv_goto (tgt := 21) hx hb dX6_isNear_17 (by decide) ?_
    exact gRet_z hx hb hr hlocks rfl hK hP hS ⟨g_some hs, rfl⟩ dX6_isNear_21
  · have hs := g_f hs hc
    refine lv_iload_n hx hb dX6_isNear_11 rfl (lv_at hl 1 rfl) ?_
    refine lv_iconst (v := 4) hx hb dX6_isNear_12 (by decide) ?_
    refine lv_icmp_ne (tgt := 20) hx hb dX6_isNear_13 (by decide) (fun hc => ?_) (fun hc => ?_)
    · have hs := g_f hs hc
      refine lv_iconst (v := 0) hx hb dX6_isNear_20 (by decide) ?_
      exact gRet_z hx hb hr hlocks rfl hK hP hS ⟨g_some hs, rfl⟩ dX6_isNear_21
    · have hs := g_t hs hc
      refine lv_iconst (v := 1) hx hb dX6_isNear_16 (by decide) ?_
      refine lv_goto (tgt := 21) hx hb dX6_isNear_17 (by decide) ?_
      exact gRet_z hx hb hr hlocks rfl hK hP hS ⟨g_some hs, rfl⟩ dX6_isNear_21
set_option maxHeartbeats 4000000 in
set_option maxRecDepth 100000 in
theorem cX6_isVisible_c (l : Launch) (D : va_G) (cy : Nat → ClassId) (ad : Nat → Nat) (tL z0 : Nat) (hI : gI z0 ad) (v : gV) (u : Int64) (x1 : Int32) (r0 : Int32) (hs : sX6_isVisible v x1 = some r0) : Met l yX6_isVisible wsX6_isVisible ({ frames := 1, cells := 0, slots := 0, locals := 22 } : Room) (gPc D cy ad tL z0 v u [.ref (ad 81), .int x1]) (gQi D cy ad tL z0 v u r0) 0 0 (gA z0) := by
  refine Met.ofW (cc := cX6_isVisible) (maxL := 3) (ret := (some .boolean)) (by decide) rfl ?_
  intro p e s m args below meth c s₁ B hml hv
  obtain ⟨rfl, hB0⟩ := hv
  have hP : va_P D vwCl (gW cy ad v u) s.heap := hB0.1
  have hK : gK D cy tL z0 s s.heap := hB0.2
  have hx := B.exec
  have hb := B.bytes
  have hr := B.returns
  have hts := atoms_spec (ws := wsX6_isVisible) B.pre
  have hown : s.vm.findClass RX6 = some m.cls := findClass_of_methodNamed B.named
  have hlocks := B.notSynchronized
  have hS : va_S (gA z0) s.heap s.heap [] := va_S.rf
  have hl := lv_entry ([.ref (ad 81), .int x1]) (n := 3) (Nat.le_of_ble_eq_true rfl)
  rw [lg_entry_eq]
  generalize (lg_sl ([.ref (ad 81), .int x1]) ++ List.replicate (3 - (lg_sl ([.ref (ad 81), .int x1])).length) Slot.unset).toArray = ls at hl ⊢
  have hl : lv_has ls 3 [(0, .ref (ad 81)), (1, .int x1)] := hl
  clear hB0
  unfold sX6_isVisible at hs
  refine lv_aload_n hx hb dX6_isVisible_0 rfl (lv_at hl 0 rfl) ?_
  refine lv_iload_n hx hb dX6_isVisible_1 rfl (lv_at hl 1 rfl) ?_
  refine lv_iconst (v := 2) hx hb dX6_isVisible_2 (by decide) ?_
  refine g_bind hs (fun q_1 hq_1 hs => ?_)
  refine gCV_i (As := [.int x1, .int 2]) (rest := []) ⟨hx, hb, hml, hown, hts⟩ (cX6_of_c l D cy ad tL z0 hI v u x1 2 q_1 hq_1) (cwV 2 hts gX6_isVisible_X6_of rfl rfl rfl (by decide +kernel) ⟨Nat.le_of_ble_eq_true rfl, Nat.le_of_ble_eq_true rfl⟩) hK hP hS (va_recv hK.1 hP (ci := 6) (q0 := 81) rfl (gW_6 kd81)) hl.1 rfl rfl (Nat.le_of_ble_eq_true rfl) dX6_isVisible_3 ⟨Nat.zero_le _, Nat.zero_le _⟩ (fun H locs hP hS => ?_)
  refine lv_istore_n (lv' := [(2, .int q_1), (0, .ref (ad 81)), (1, .int x1)]) hx hb dX6_isVisible_6 rfl hl (by decide) rfl (fun ls hl => ?_)
  refine lv_aload_n hx hb dX6_isVisible_7 rfl (lv_at hl 1 rfl) ?_
  refine lv_iload_n hx hb dX6_isVisible_8 rfl (lv_at hl 0 rfl) ?_
  refine g_bind hs (fun q_2 hq_2 hs => ?_)
  refine gCV_i (As := [.int q_1]) (rest := []) ⟨hx, hb, hml, hown, hts⟩ (cX6_isNear_c l D cy ad tL z0 hI v u q_1 q_2 hq_2) (cwV 1 hts gX6_isVisible_X6_isNear rfl rfl rfl (by decide +kernel) ⟨Nat.le_of_ble_eq_true rfl, Nat.le_of_ble_eq_true rfl⟩) hK hP hS (va_recv hK.1 hP (ci := 6) (q0 := 81) rfl (gW_6 kd81)) hl.1 rfl rfl (Nat.le_of_ble_eq_true rfl) dX6_isVisible_9 ⟨Nat.zero_le _, Nat.zero_le _⟩ (fun H locs hP hS => ?_)
  refine lv_if_ne (tgt := 47) hx hb dX6_isVisible_12 (by decide) (fun hc => ?_) (fun hc => ?_)
  · have hs := g_f hs hc
    refine lv_iconst (v := 1) hx hb dX6_isVisible_47 (by decide) ?_
    refine lv_goto (tgt := 52) hx hb dX6_isVisible_48 (by decide) ?_
    exact gRet_z hx hb hr hlocks rfl hK hP hS ⟨g_some hs, rfl⟩ dX6_isVisible_52
  · have hs := g_t hs hc
    refine lv_iload_n hx hb dX6_isVisible_15 rfl (lv_at hl 0 rfl) ?_
    refine lv_iconst (v := 4) hx hb dX6_isVisible_16 (by decide) ?_
    refine lv_icmp_le (tgt := 51) hx hb dX6_isVisible_17 (by decide) (fun hc => ?_) (fun hc => ?_)
    · have hs := g_t hs hc
      refine lv_iconst (v := 0) hx hb dX6_isVisible_51 (by decide) ?_
      exact gRet_z hx hb hr hlocks rfl hK hP hS ⟨g_some hs, rfl⟩ dX6_isVisible_52
    · have hs := g_f hs hc
      refine lv_aload_n hx hb dX6_isVisible_20 rfl (lv_at hl 1 rfl) ?_
      refine lv_iload_n hx hb dX6_isVisible_21 rfl (lv_at hl 0 rfl) ?_
      refine lv_iconst (v := 5) hx hb dX6_isVisible_22 (by decide) ?_
      refine lv_isub hx hb dX6_isVisible_23 ?_
      refine lv_iconst (v := 3) hx hb dX6_isVisible_24 (by decide) ?_
      refine g_bind hs (fun q_3 hq_3 hs => ?_)
      refine gCV_i (As := [.int (q_1 - 5), .int 3]) (rest := []) ⟨hx, hb, hml, hown, hts⟩ (cX6_of_c l D cy ad tL z0 hI v u (q_1 - 5) 3 q_3 hq_3) (cwV 2 hts gX6_isVisible_X6_of rfl rfl rfl (by decide +kernel) ⟨Nat.le_of_ble_eq_true rfl, Nat.le_of_ble_eq_true rfl⟩) hK hP hS (va_recv hK.1 hP (ci := 6) (q0 := 81) rfl (gW_6 kd81)) hl.1 rfl rfl (Nat.le_of_ble_eq_true rfl) dX6_isVisible_25 ⟨Nat.zero_le _, Nat.zero_le _⟩ (fun H locs hP hS => ?_)
      refine lv_iconst (v := 1) hx hb dX6_isVisible_28 (by decide) ?_
      refine lv_icmp_ne (tgt := 51) hx hb dX6_isVisible_29 (by decide) (fun hc => ?_) (fun hc => ?_)
      · have hs := g_f hs hc
        refine lv_iconst (v := 0) hx hb dX6_isVisible_51 (by decide) ?_
        exact gRet_z hx hb hr hlocks rfl hK hP hS ⟨g_some hs, rfl⟩ dX6_isVisible_52
      · have hs := g_t hs hc
        refine lv_aload_n hx hb dX6_isVisible_32 rfl (lv_at hl 1 rfl) ?_
        refine lv_aload_n hx hb dX6_isVisible_33 rfl (lv_at hl 1 rfl) ?_
        refine lv_iload_n hx hb dX6_isVisible_34 rfl (lv_at hl 0 rfl) ?_
        refine lv_iconst (v := 5) hx hb dX6_isVisible_35 (by decide) ?_
        refine lv_isub hx hb dX6_isVisible_36 ?_
        refine lv_iconst (v := 2) hx hb dX6_isVisible_37 (by decide) ?_
        refine g_bind hs (fun q_4 hq_4 hs => ?_)
        refine gCV_i (As := [.int (q_1 - 5), .int 2]) (rest := [.ref (ad 81)]) ⟨hx, hb, hml, hown, hts⟩ (cX6_of_c l D cy ad tL z0 hI v u (q_1 - 5) 2 q_4 hq_4) (cwV 2 hts gX6_isVisible_X6_of rfl rfl rfl (by decide +kernel) ⟨Nat.le_of_ble_eq_true rfl, Nat.le_of_ble_eq_true rfl⟩) hK hP hS (va_recv hK.1 hP (ci := 6) (q0 := 81) rfl (gW_6 kd81)) hl.1 rfl rfl (Nat.le_of_ble_eq_true rfl) dX6_isVisible_38 ⟨Nat.zero_le _, Nat.zero_le _⟩ (fun H locs hP hS => ?_)
        refine g_bind hs (fun q_5 hq_5 hs => ?_)
        refine gCV_i (As := [.int q_4]) (rest := []) ⟨hx, hb, hml, hown, hts⟩ (cX6_isNear_c l D cy ad tL z0 hI v u q_4 q_5 hq_5) (cwV 1 hts gX6_isVisible_X6_isNear rfl rfl rfl (by decide +kernel) ⟨Nat.le_of_ble_eq_true rfl, Nat.le_of_ble_eq_true rfl⟩) hK hP hS (va_recv hK.1 hP (ci := 6) (q0 := 81) rfl (gW_6 kd81)) hl.1 rfl rfl (Nat.le_of_ble_eq_true rfl) dX6_isVisible_41 ⟨Nat.zero_le _, Nat.zero_le _⟩ (fun H locs hP hS => ?_)
        refine lv_if_eq (tgt := 51) hx hb dX6_isVisible_44 (by decide) (fun hc => ?_) (fun hc => ?_)
        · have hs := g_t hs hc
          refine lv_iconst (v := 0) hx hb dX6_isVisible_51 (by decide) ?_
          exact gRet_z hx hb hr hlocks rfl hK hP hS ⟨g_some hs, rfl⟩ dX6_isVisible_52
        · have hs := g_f hs hc
          refine lv_iconst (v := 1) hx hb dX6_isVisible_47 (by decide) ?_
          refine lv_goto (tgt := 52) hx hb dX6_isVisible_48 (by decide) ?_
          exact gRet_z hx hb hr hlocks rfl hK hP hS ⟨g_some hs, rfl⟩ dX6_isVisible_52
set_option maxHeartbeats 4000000 in
set_option maxRecDepth 100000 in
theorem cX6_isTarget_c (l : Launch) (D : va_G) (cy : Nat → ClassId) (ad : Nat → Nat) (tL z0 : Nat) (hI : gI z0 ad) (v : gV) (u : Int64) (x1 : Int32) (r0 : Int32) (hs : sX6_isTarget v x1 = some r0) : Met l yX6_isTarget wsX6_isTarget ({ frames := 2, cells := 0, slots := 0, locals := 44 } : Room) (gPc D cy ad tL z0 v u [.ref (ad 81), .int x1]) (gQi D cy ad tL z0 v u r0) 0 0 (gA z0) := by
  refine Met.ofW (cc := cX6_isTarget) (maxL := 2) (ret := (some .boolean)) (by decide) rfl ?_
  intro p e s m args below meth c s₁ B hml hv
  obtain ⟨rfl, hB0⟩ := hv
  have hP : va_P D vwCl (gW cy ad v u) s.heap := hB0.1
  have hK : gK D cy tL z0 s s.heap := hB0.2
  have hx := B.exec
  have hb := B.bytes
  have hr := B.returns
  have hts := atoms_spec (ws := wsX6_isTarget) B.pre
  have hown : s.vm.findClass RX6 = some m.cls := findClass_of_methodNamed B.named
  have hlocks := B.notSynchronized
  have hS : va_S (gA z0) s.heap s.heap [] := va_S.rf
  have hl := lv_entry ([.ref (ad 81), .int x1]) (n := 2) (Nat.le_of_ble_eq_true rfl)
  rw [lg_entry_eq]
  generalize (lg_sl ([.ref (ad 81), .int x1]) ++ List.replicate (2 - (lg_sl ([.ref (ad 81), .int x1])).length) Slot.unset).toArray = ls at hl ⊢
  have hl : lv_has ls 2 [(0, .ref (ad 81)), (1, .int x1)] := hl
  clear hB0
  unfold sX6_isTarget at hs
  refine lv_aload_n hx hb dX6_isTarget_0 rfl (lv_at hl 0 rfl) ?_
  refine lv_iload_n hx hb dX6_isTarget_1 rfl (lv_at hl 1 rfl) ?_
  refine g_bind hs (fun q_1 hq_1 hs => ?_)
  refine gCV_i (As := [.int x1]) (rest := []) ⟨hx, hb, hml, hown, hts⟩ (cX6_isVisible_c l D cy ad tL z0 hI v u x1 q_1 hq_1) (cwV 1 hts gX6_isTarget_X6_isVisible rfl rfl rfl (by decide +kernel) ⟨Nat.le_of_ble_eq_true rfl, Nat.le_of_ble_eq_true rfl⟩) hK hP hS (va_recv hK.1 hP (ci := 6) (q0 := 81) rfl (gW_6 kd81)) hl.1 rfl rfl (Nat.le_of_ble_eq_true rfl) dX6_isTarget_2 ⟨Nat.zero_le _, Nat.zero_le _⟩ (fun H locs hP hS => ?_)
  refine lv_if_eq (tgt := 22) hx hb dX6_isTarget_5 (by decide) (fun hc => ?_) (fun hc => ?_)
  · have hs := g_t hs hc
    refine lv_iconst (v := 0) hx hb dX6_isTarget_22 (by decide) ?_
    exact gRet_z hx hb hr hlocks rfl hK hP hS ⟨g_some hs, rfl⟩ dX6_isTarget_23
  · have hs := g_f hs hc
    refine lv_aload_n hx hb dX6_isTarget_8 rfl (lv_at hl 0 rfl) ?_
    refine lv_iload_n hx hb dX6_isTarget_9 rfl (lv_at hl 1 rfl) ?_
    refine lv_iconst (v := 3) hx hb dX6_isTarget_10 (by decide) ?_
    refine g_bind hs (fun q_2 hq_2 hs => ?_)
    refine gCV_i (As := [.int x1, .int 3]) (rest := []) ⟨hx, hb, hml, hown, hts⟩ (cX6_of_c l D cy ad tL z0 hI v u x1 3 q_2 hq_2) (cwV 2 hts gX6_isTarget_X6_of rfl rfl rfl (by decide +kernel) ⟨Nat.le_of_ble_eq_true rfl, Nat.le_of_ble_eq_true rfl⟩) hK hP hS (va_recv hK.1 hP (ci := 6) (q0 := 81) rfl (gW_6 kd81)) hl.1 rfl rfl (Nat.le_of_ble_eq_true rfl) dX6_isTarget_11 ⟨Nat.zero_le _, Nat.zero_le _⟩ (fun H locs hP hS => ?_)
    refine lv_iconst (v := 1) hx hb dX6_isTarget_14 (by decide) ?_
    refine lv_icmp_ne (tgt := 22) hx hb dX6_isTarget_15 (by decide) (fun hc => ?_) (fun hc => ?_)
    · have hs := g_f hs hc
      refine lv_iconst (v := 0) hx hb dX6_isTarget_22 (by decide) ?_
      exact gRet_z hx hb hr hlocks rfl hK hP hS ⟨g_some hs, rfl⟩ dX6_isTarget_23
    · have hs := g_t hs hc
      refine lv_iconst (v := 1) hx hb dX6_isTarget_18 (by decide) ?_
      refine lv_goto (tgt := 23) hx hb dX6_isTarget_19 (by decide) ?_
      exact gRet_z hx hb hr hlocks rfl hK hP hS ⟨g_some hs, rfl⟩ dX6_isTarget_23
set_option maxHeartbeats 4000000 in
set_option maxRecDepth 100000 in
theorem cX6_suits_c (l : Launch) (D : va_G) (cy : Nat → ClassId) (ad : Nat → Nat) (tL z0 : Nat) (hI : gI z0 ad) (v : gV) (u : Int64) (x1 : Int32) (x2 : Int32) (r0 : Int32) (hs : sX6_suits v x1 x2 = some r0) : Met l yX6_suits wsX6_suits ({ frames := 3, cells := 0, slots := 0, locals := 65 } : Room) (gPc D cy ad tL z0 v u [.ref (ad 81), .int x1, .int x2]) (gQi D cy ad tL z0 v u r0) 0 0 (gA z0) := by
  refine Met.ofW (cc := cX6_suits) (maxL := 3) (ret := (some .boolean)) (by decide) rfl ?_
  intro p e s m args below meth c s₁ B hml hv
  obtain ⟨rfl, hB0⟩ := hv
  have hP : va_P D vwCl (gW cy ad v u) s.heap := hB0.1
  have hK : gK D cy tL z0 s s.heap := hB0.2
  have hx := B.exec
  have hb := B.bytes
  have hr := B.returns
  have hts := atoms_spec (ws := wsX6_suits) B.pre
  have hown : s.vm.findClass RX6 = some m.cls := findClass_of_methodNamed B.named
  have hlocks := B.notSynchronized
  have hS : va_S (gA z0) s.heap s.heap [] := va_S.rf
  have hl := lv_entry ([.ref (ad 81), .int x1, .int x2]) (n := 3) (Nat.le_of_ble_eq_true rfl)
  rw [lg_entry_eq]
  generalize (lg_sl ([.ref (ad 81), .int x1, .int x2]) ++ List.replicate (3 - (lg_sl ([.ref (ad 81), .int x1, .int x2])).length) Slot.unset).toArray = ls at hl ⊢
  have hl : lv_has ls 3 [(0, .ref (ad 81)), (1, .int x1), (2, .int x2)] := hl
  clear hB0
  unfold sX6_suits at hs
  refine lv_iload_n hx hb dX6_suits_0 rfl (lv_at hl 2 rfl) ?_
  by_cases hc1_0 : x2 = 0
  · have hs := g_t hs hc1_0
    refine lv_tableIn (off := 31) (tgt := 32) hx hb dX6_suits_1 (by rw [hc1_0]; decide) (by rw [hc1_0]; decide) (by rw [hc1_0]; rfl) (by decide) ?_
    refine lv_aload_n hx hb dX6_suits_32 rfl (lv_at hl 0 rfl) ?_
    refine lv_iload_n hx hb dX6_suits_33 rfl (lv_at hl 1 rfl) ?_
    refine g_bind hs (fun q_1 hq_1 hs => ?_)
    refine gCV_i (As := [.int x1]) (rest := []) ⟨hx, hb, hml, hown, hts⟩ (cX6_isVisible_c l D cy ad tL z0 hI v u x1 q_1 hq_1) (cwV 1 hts gX6_suits_X6_isVisible rfl rfl rfl (by decide +kernel) ⟨Nat.le_of_ble_eq_true rfl, Nat.le_of_ble_eq_true rfl⟩) hK hP hS (va_recv hK.1 hP (ci := 6) (q0 := 81) rfl (gW_6 kd81)) hl.1 rfl rfl (Nat.le_of_ble_eq_true rfl) dX6_suits_34 ⟨Nat.zero_le _, Nat.zero_le _⟩ (fun H locs hP hS => ?_)
    refine lv_if_eq (tgt := 54) hx hb dX6_suits_37 (by decide) (fun hc => ?_) (fun hc => ?_)
    · have hs := g_t hs hc
      refine lv_iconst (v := 0) hx hb dX6_suits_54 (by decide) ?_
      exact gRet_z hx hb hr hlocks rfl hK hP hS ⟨g_some hs, rfl⟩ dX6_suits_55
    · have hs := g_f hs hc
      refine lv_aload_n hx hb dX6_suits_40 rfl (lv_at hl 0 rfl) ?_
      refine lv_iload_n hx hb dX6_suits_41 rfl (lv_at hl 1 rfl) ?_
      refine lv_iconst (v := 2) hx hb dX6_suits_42 (by decide) ?_
      refine g_bind hs (fun q_2 hq_2 hs => ?_)
      refine gCV_i (As := [.int x1, .int 2]) (rest := []) ⟨hx, hb, hml, hown, hts⟩ (cX6_of_c l D cy ad tL z0 hI v u x1 2 q_2 hq_2) (cwV 2 hts gX6_suits_X6_of rfl rfl rfl (by decide +kernel) ⟨Nat.le_of_ble_eq_true rfl, Nat.le_of_ble_eq_true rfl⟩) hK hP hS (va_recv hK.1 hP (ci := 6) (q0 := 81) rfl (gW_6 kd81)) hl.1 rfl rfl (Nat.le_of_ble_eq_true rfl) dX6_suits_43 ⟨Nat.zero_le _, Nat.zero_le _⟩ (fun H locs hP hS => ?_)
      refine lv_iconst (v := 4) hx hb dX6_suits_46 (by decide) ?_
      refine lv_icmp_eq (tgt := 54) hx hb dX6_suits_47 (by decide) (fun hc => ?_) (fun hc => ?_)
      · have hs := g_t hs hc
        refine lv_iconst (v := 0) hx hb dX6_suits_54 (by decide) ?_
        exact gRet_z hx hb hr hlocks rfl hK hP hS ⟨g_some hs, rfl⟩ dX6_suits_55
      · have hs := g_f hs hc
        refine lv_iconst (v := 1) hx hb dX6_suits_50 (by decide) ?_
        refine lv_goto (tgt := 55) hx hb dX6_suits_51 (by decide) ?_
        exact gRet_z hx hb hr hlocks rfl hK hP hS ⟨g_some hs, rfl⟩ dX6_suits_55
  have hs := g_f hs hc1_0
  by_cases hc1_1 : x2 = 1
  · have hs := g_t hs hc1_1
    refine lv_tableIn (off := 55) (tgt := 56) hx hb dX6_suits_1 (by rw [hc1_1]; decide) (by rw [hc1_1]; decide) (by rw [hc1_1]; rfl) (by decide) ?_
    refine lv_aload_n hx hb dX6_suits_56 rfl (lv_at hl 0 rfl) ?_
    refine lv_iload_n hx hb dX6_suits_57 rfl (lv_at hl 1 rfl) ?_
    refine lv_iconst (v := 2) hx hb dX6_suits_58 (by decide) ?_
    refine g_bind hs (fun q_3 hq_3 hs => ?_)
    refine gCV_i (As := [.int x1, .int 2]) (rest := []) ⟨hx, hb, hml, hown, hts⟩ (cX6_of_c l D cy ad tL z0 hI v u x1 2 q_3 hq_3) (cwV 2 hts gX6_suits_X6_of rfl rfl rfl (by decide +kernel) ⟨Nat.le_of_ble_eq_true rfl, Nat.le_of_ble_eq_true rfl⟩) hK hP hS (va_recv hK.1 hP (ci := 6) (q0 := 81) rfl (gW_6 kd81)) hl.1 rfl rfl (Nat.le_of_ble_eq_true rfl) dX6_suits_59 ⟨Nat.zero_le _, Nat.zero_le _⟩ (fun H locs hP hS => ?_)
    refine lv_iconst (v := 4) hx hb dX6_suits_62 (by decide) ?_
    refine lv_icmp_ne (tgt := 70) hx hb dX6_suits_63 (by decide) (fun hc => ?_) (fun hc => ?_)
    · have hs := g_f hs hc
      refine lv_iconst (v := 0) hx hb dX6_suits_70 (by decide) ?_
      exact gRet_z hx hb hr hlocks rfl hK hP hS ⟨g_some hs, rfl⟩ dX6_suits_71
    · have hs := g_t hs hc
      refine lv_iconst (v := 1) hx hb dX6_suits_66 (by decide) ?_
      refine lv_goto (tgt := 71) hx hb dX6_suits_67 (by decide) ?_
      exact gRet_z hx hb hr hlocks rfl hK hP hS ⟨g_some hs, rfl⟩ dX6_suits_71
  have hs := g_f hs hc1_1
  by_cases hc1_2 : x2 = 2
  · have hs := g_t hs hc1_2
    refine lv_tableIn (off := 71) (tgt := 72) hx hb dX6_suits_1 (by rw [hc1_2]; decide) (by rw [hc1_2]; decide) (by rw [hc1_2]; rfl) (by decide) ?_
    refine lv_aload_n hx hb dX6_suits_72 rfl (lv_at hl 0 rfl) ?_
    refine lv_iload_n hx hb dX6_suits_73 rfl (lv_at hl 1 rfl) ?_
    refine lv_iconst (v := 2) hx hb dX6_suits_74 (by decide) ?_
    refine g_bind hs (fun q_4 hq_4 hs => ?_)
    refine gCV_i (As := [.int x1, .int 2]) (rest := []) ⟨hx, hb, hml, hown, hts⟩ (cX6_of_c l D cy ad tL z0 hI v u x1 2 q_4 hq_4) (cwV 2 hts gX6_suits_X6_of rfl rfl rfl (by decide +kernel) ⟨Nat.le_of_ble_eq_true rfl, Nat.le_of_ble_eq_true rfl⟩) hK hP hS (va_recv hK.1 hP (ci := 6) (q0 := 81) rfl (gW_6 kd81)) hl.1 rfl rfl (Nat.le_of_ble_eq_true rfl) dX6_suits_75 ⟨Nat.zero_le _, Nat.zero_le _⟩ (fun H locs hP hS => ?_)
    refine lv_iconst (v := 4) hx hb dX6_suits_78 (by decide) ?_
    refine lv_icmp_ne (tgt := 94) hx hb dX6_suits_79 (by decide) (fun hc => ?_) (fun hc => ?_)
    · have hs := g_f hs hc
      refine lv_iconst (v := 0) hx hb dX6_suits_94 (by decide) ?_
      exact gRet_z hx hb hr hlocks rfl hK hP hS ⟨g_some hs, rfl⟩ dX6_suits_95
    · have hs := g_t hs hc
      refine lv_aload_n hx hb dX6_suits_82 rfl (lv_at hl 0 rfl) ?_
      refine lv_iload_n hx hb dX6_suits_83 rfl (lv_at hl 1 rfl) ?_
      refine g_bind hs (fun q_5 hq_5 hs => ?_)
      refine gCV_i (As := [.int x1]) (rest := []) ⟨hx, hb, hml, hown, hts⟩ (cX6_isContainer_c l D cy ad tL z0 hI v u x1 q_5 hq_5) (cwV 1 hts gX6_suits_X6_isContainer rfl rfl rfl (by decide +kernel) ⟨Nat.le_of_ble_eq_true rfl, Nat.le_of_ble_eq_true rfl⟩) hK hP hS (va_recv hK.1 hP (ci := 6) (q0 := 81) rfl (gW_6 kd81)) hl.1 rfl rfl (Nat.le_of_ble_eq_true rfl) dX6_suits_84 ⟨Nat.zero_le _, Nat.zero_le _⟩ (fun H locs hP hS => ?_)
      refine lv_if_ne (tgt := 94) hx hb dX6_suits_87 (by decide) (fun hc => ?_) (fun hc => ?_)
      · have hs := g_f hs hc
        refine lv_iconst (v := 0) hx hb dX6_suits_94 (by decide) ?_
        exact gRet_z hx hb hr hlocks rfl hK hP hS ⟨g_some hs, rfl⟩ dX6_suits_95
      · have hs := g_t hs hc
        refine lv_iconst (v := 1) hx hb dX6_suits_90 (by decide) ?_
        refine lv_goto (tgt := 95) hx hb dX6_suits_91 (by decide) ?_
        exact gRet_z hx hb hr hlocks rfl hK hP hS ⟨g_some hs, rfl⟩ dX6_suits_95
  have hs := g_f hs hc1_2
  by_cases hc1_3 : x2 = 3
  · have hs := g_t hs hc1_3
    refine lv_tableIn (off := 95) (tgt := 96) hx hb dX6_suits_1 (by rw [hc1_3]; decide) (by rw [hc1_3]; decide) (by rw [hc1_3]; rfl) (by decide) ?_
    refine lv_aload_n hx hb dX6_suits_96 rfl (lv_at hl 0 rfl) ?_
    refine lv_iload_n hx hb dX6_suits_97 rfl (lv_at hl 1 rfl) ?_
    refine g_bind hs (fun q_6 hq_6 hs => ?_)
    refine gCV_i (As := [.int x1]) (rest := []) ⟨hx, hb, hml, hown, hts⟩ (cX6_isVisible_c l D cy ad tL z0 hI v u x1 q_6 hq_6) (cwV 1 hts gX6_suits_X6_isVisible rfl rfl rfl (by decide +kernel) ⟨Nat.le_of_ble_eq_true rfl, Nat.le_of_ble_eq_true rfl⟩) hK hP hS (va_recv hK.1 hP (ci := 6) (q0 := 81) rfl (gW_6 kd81)) hl.1 rfl rfl (Nat.le_of_ble_eq_true rfl) dX6_suits_98 ⟨Nat.zero_le _, Nat.zero_le _⟩ (fun H locs hP hS => ?_)
    refine lv_if_eq (tgt := 125) hx hb dX6_suits_101 (by decide) (fun hc => ?_) (fun hc => ?_)
    · have hs := g_t hs hc
      refine lv_iconst (v := 0) hx hb dX6_suits_125 (by decide) ?_
      exact gRet_z hx hb hr hlocks rfl hK hP hS ⟨g_some hs, rfl⟩ dX6_suits_126
    · have hs := g_f hs hc
      refine lv_aload_n hx hb dX6_suits_104 rfl (lv_at hl 0 rfl) ?_
      refine lv_iload_n hx hb dX6_suits_105 rfl (lv_at hl 1 rfl) ?_
      refine g_bind hs (fun q_7 hq_7 hs => ?_)
      refine gCV_i (As := [.int x1]) (rest := []) ⟨hx, hb, hml, hown, hts⟩ (cX6_isContainer_c l D cy ad tL z0 hI v u x1 q_7 hq_7) (cwV 1 hts gX6_suits_X6_isContainer rfl rfl rfl (by decide +kernel) ⟨Nat.le_of_ble_eq_true rfl, Nat.le_of_ble_eq_true rfl⟩) hK hP hS (va_recv hK.1 hP (ci := 6) (q0 := 81) rfl (gW_6 kd81)) hl.1 rfl rfl (Nat.le_of_ble_eq_true rfl) dX6_suits_106 ⟨Nat.zero_le _, Nat.zero_le _⟩ (fun H locs hP hS => ?_)
      refine lv_if_eq (tgt := 125) hx hb dX6_suits_109 (by decide) (fun hc => ?_) (fun hc => ?_)
      · have hs := g_t hs hc
        refine lv_iconst (v := 0) hx hb dX6_suits_125 (by decide) ?_
        exact gRet_z hx hb hr hlocks rfl hK hP hS ⟨g_some hs, rfl⟩ dX6_suits_126
      · have hs := g_f hs hc
        refine lv_aload_n hx hb dX6_suits_112 rfl (lv_at hl 0 rfl) ?_
        refine lv_iload_n hx hb dX6_suits_113 rfl (lv_at hl 1 rfl) ?_
        refine lv_iconst (v := 3) hx hb dX6_suits_114 (by decide) ?_
        refine g_bind hs (fun q_8 hq_8 hs => ?_)
        refine gCV_i (As := [.int x1, .int 3]) (rest := []) ⟨hx, hb, hml, hown, hts⟩ (cX6_of_c l D cy ad tL z0 hI v u x1 3 q_8 hq_8) (cwV 2 hts gX6_suits_X6_of rfl rfl rfl (by decide +kernel) ⟨Nat.le_of_ble_eq_true rfl, Nat.le_of_ble_eq_true rfl⟩) hK hP hS (va_recv hK.1 hP (ci := 6) (q0 := 81) rfl (gW_6 kd81)) hl.1 rfl rfl (Nat.le_of_ble_eq_true rfl) dX6_suits_115 ⟨Nat.zero_le _, Nat.zero_le _⟩ (fun H locs hP hS => ?_)
        refine lv_if_ne (tgt := 125) hx hb dX6_suits_118 (by decide) (fun hc => ?_) (fun hc => ?_)
        · have hs := g_f hs hc
          refine lv_iconst (v := 0) hx hb dX6_suits_125 (by decide) ?_
          exact gRet_z hx hb hr hlocks rfl hK hP hS ⟨g_some hs, rfl⟩ dX6_suits_126
        · have hs := g_t hs hc
          refine lv_iconst (v := 1) hx hb dX6_suits_121 (by decide) ?_
          refine lv_goto (tgt := 126) hx hb dX6_suits_122 (by decide) ?_
          exact gRet_z hx hb hr hlocks rfl hK hP hS ⟨g_some hs, rfl⟩ dX6_suits_126
  have hs := g_f hs hc1_3
  refine lv_tableOut (tgt := 127) hx hb dX6_suits_1 (by have n0 := g_neI (i := 0) hc1_0 (by decide); have n1 := g_neI (i := 1) hc1_1 (by decide); have n2 := g_neI (i := 2) hc1_2 (by decide); have n3 := g_neI (i := 3) hc1_3 (by decide); omega) (by decide) ?_
  refine lv_aload_n hx hb dX6_suits_127 rfl (lv_at hl 0 rfl) ?_
  refine lv_iload_n hx hb dX6_suits_128 rfl (lv_at hl 1 rfl) ?_
  refine g_bind hs (fun q_9 hq_9 hs => ?_)
  refine gCV_i (As := [.int x1]) (rest := []) ⟨hx, hb, hml, hown, hts⟩ (cX6_isTarget_c l D cy ad tL z0 hI v u x1 q_9 hq_9) (cwV 1 hts gX6_suits_X6_isTarget rfl rfl rfl (by decide +kernel) ⟨Nat.le_of_ble_eq_true rfl, Nat.le_of_ble_eq_true rfl⟩) hK hP hS (va_recv hK.1 hP (ci := 6) (q0 := 81) rfl (gW_6 kd81)) hl.1 rfl rfl (Nat.le_of_ble_eq_true rfl) dX6_suits_129 ⟨Nat.zero_le _, Nat.zero_le _⟩ (fun H locs hP hS => ?_)
  refine g_chk hs (fun hc hs => ?_)
  exact gRet_z hx hb hr hlocks (g_nz hc) hK hP hS ⟨g_some hs, rfl⟩ dX6_suits_132
set_option maxHeartbeats 4000000 in
set_option maxRecDepth 100000 in
theorem cX6_visibleOnes_c (l : Launch) (D : va_G) (cy : Nat → ClassId) (ad : Nat → Nat) (tL z0 : Nat) (hI : gI z0 ad) (n : Nat) (v : gV) (u : Int64) (r0 : Int32) (hs : sX6_visibleOnes n v = some r0) : Met l yX6_visibleOnes wsX6_visibleOnes ({ frames := 2, cells := 0, slots := 0, locals := 44 } : Room) (gPc D cy ad tL z0 v u [.ref (ad 81)]) (gQi D cy ad tL z0 v u r0) 0 0 (gA z0) := by
  refine Met.ofW (cc := cX6_visibleOnes) (maxL := 3) (ret := (some .int)) (by decide) rfl ?_
  intro p e s m args below meth c s₁ B hml hv
  obtain ⟨rfl, hB0⟩ := hv
  have hP : va_P D vwCl (gW cy ad v u) s.heap := hB0.1
  have hK : gK D cy tL z0 s s.heap := hB0.2
  have hx := B.exec
  have hb := B.bytes
  have hr := B.returns
  have hts := atoms_spec (ws := wsX6_visibleOnes) B.pre
  have hown : s.vm.findClass RX6 = some m.cls := findClass_of_methodNamed B.named
  have hlocks := B.notSynchronized
  have hS : va_S (gA z0) s.heap s.heap [] := va_S.rf
  have hl := lv_entry ([.ref (ad 81)]) (n := 3) (Nat.le_of_ble_eq_true rfl)
  rw [lg_entry_eq]
  generalize (lg_sl ([.ref (ad 81)]) ++ List.replicate (3 - (lg_sl ([.ref (ad 81)])).length) Slot.unset).toArray = ls at hl ⊢
  have hl : lv_has ls 3 [(0, .ref (ad 81))] := hl
  have iX6 := (show ∀ w ∈ u_ws RX6 TX6 17, w ∈ wsX6_visibleOnes by decide +kernel)
  have f16 := hts (.fieldLink RX6 16 "AdventureParserModel" "s" "[I") (by decide +kernel)
  clear hB0
  have hL_4 : ∀ (k : Nat), ∀ (w1 : Int32) (w2 : Int32) (H : Heap) (locs : List Loc) (ls : Array Slot), va_P D vwCl (gW cy ad v u) H → va_S (gA z0) s.heap H locs → lv_has ls 3 [(0, .ref (ad 81)), (1, .int w1), (2, .int w2)] → sX6_visibleOnes_4 n k v w1 w2 = some r0 → W p l e (headSpec wsX6_visibleOnes ({ frames := 2, cells := 0, slots := 0, locals := 44 } : Room)).room s m ([.ref (ad 81)] : List Value).toArray below meth c H locs 0 0 (MQ below (gQi D cy ad tL z0 v u r0) ([.ref (ad 81)] : List Value).toArray s 0 0 (gA z0)) (F0 m 4 ls []) := by
    intro k
    induction k with
    | zero =>
      intro w1 w2 H locs ls hP hS hl hs
      exact g_none hs
    | succ k ih =>
      intro w1 w2 H locs ls hP hS hl hs
      rw [sX6_visibleOnes_4] at hs
      refine lv_iload_n hx hb dX6_visibleOnes_4 rfl (lv_at hl 2 rfl) ?_
      refine lv_aload_n hx hb dX6_visibleOnes_5 rfl (lv_at hl 0 rfl) ?_
      refine va_get (D := D) (ci := 6) (v := .ref (ad 84)) (C := RX6) (T := TX6) (N := 17) hx hb hts iX6 hown hK.1 hP 81 (gW_6 kd81) rfl 2 (by decide) f16 (fun _ h9 => h9) rfl dX6_visibleOnes_6 ?_
      refine lv_iconst (v := 0) hx hb dX6_visibleOnes_9 (by decide) ?_
      refine va_iald (i := 0) hx hb hK.1 hP 84 0 (gW_16 kd84) rfl (by unfold vp_in; decide) dX6_visibleOnes_10 ?_
      refine lv_icmp_ge (tgt := 38) hx hb dX6_visibleOnes_11 (by decide) (fun hc => ?_) (fun hc => ?_)
      · have hs := g_t hs hc
        refine lv_iload_n hx hb dX6_visibleOnes_38 rfl (lv_at hl 1 rfl) ?_
        exact gRet_i hx hb hr hlocks hK hP hS ⟨g_some hs, rfl⟩ dX6_visibleOnes_39
      · have hs := g_f hs hc
        refine lv_iload_n hx hb dX6_visibleOnes_14 rfl (lv_at hl 1 rfl) ?_
        refine lv_aload_n hx hb dX6_visibleOnes_15 rfl (lv_at hl 0 rfl) ?_
        refine lv_iload_n hx hb dX6_visibleOnes_16 rfl (lv_at hl 2 rfl) ?_
        refine g_bind hs (fun q_1 hq_1 hs => ?_)
        refine gCV_i (As := [.int w2]) (rest := [.int w1]) ⟨hx, hb, hml, hown, hts⟩ (cX6_isVisible_c l D cy ad tL z0 hI v u w2 q_1 hq_1) (cwV 1 hts gX6_visibleOnes_X6_isVisible rfl rfl rfl (by decide +kernel) ⟨Nat.le_of_ble_eq_true rfl, Nat.le_of_ble_eq_true rfl⟩) hK hP hS (va_recv hK.1 hP (ci := 6) (q0 := 81) rfl (gW_6 kd81)) hl.1 rfl rfl (Nat.le_of_ble_eq_true rfl) dX6_visibleOnes_17 ⟨Nat.zero_le _, Nat.zero_le _⟩ (fun H locs hP hS => ?_)
        refine lv_if_eq (tgt := 29) hx hb dX6_visibleOnes_20 (by decide) (fun hc => ?_) (fun hc => ?_)
        · have hs := g_t hs hc
          refine lv_iconst (v := 0) hx hb dX6_visibleOnes_29 (by decide) ?_
          refine lv_ior hx hb dX6_visibleOnes_30 ?_
          refine lv_istore_n (lv' := [(1, .int (w1 ||| 0)), (0, .ref (ad 81)), (2, .int w2)]) hx hb dX6_visibleOnes_31 rfl hl (by decide) rfl (fun ls hl => ?_)
          refine lv_iinc (v := w2 + 1) (lv' := [(2, .int (w2 + 1)), (1, .int (w1 ||| 0)), (0, .ref (ad 81))]) hx hb dX6_visibleOnes_32 hl (k := 2) rfl rfl (by decide) rfl (fun ls hl => ?_)
          refine lv_goto (tgt := 4) hx hb dX6_visibleOnes_35 (by decide) ?_
          exact ih (w1 ||| 0) (w2 + 1) _ _ _ hP hS (lv_sub hl [2, 1, 0] rfl) hs
        · have hs := g_f hs hc
          refine lv_iconst (v := 1) hx hb dX6_visibleOnes_23 (by decide) ?_
          refine lv_iload_n hx hb dX6_visibleOnes_24 rfl (lv_at hl 2 rfl) ?_
          refine lv_ishl hx hb dX6_visibleOnes_25 ?_
          refine lv_goto (tgt := 30) hx hb dX6_visibleOnes_26 (by decide) ?_
          refine lv_ior hx hb dX6_visibleOnes_30 ?_
          refine lv_istore_n (lv' := [(1, .int (w1 ||| ((1 : Int32) <<< (w2 &&& 31)))), (0, .ref (ad 81)), (2, .int w2)]) hx hb dX6_visibleOnes_31 rfl hl (by decide) rfl (fun ls hl => ?_)
          refine lv_iinc (v := w2 + 1) (lv' := [(2, .int (w2 + 1)), (1, .int (w1 ||| ((1 : Int32) <<< (w2 &&& 31)))), (0, .ref (ad 81))]) hx hb dX6_visibleOnes_32 hl (k := 2) rfl rfl (by decide) rfl (fun ls hl => ?_)
          refine lv_goto (tgt := 4) hx hb dX6_visibleOnes_35 (by decide) ?_
          exact ih (w1 ||| ((1 : Int32) <<< (w2 &&& 31))) (w2 + 1) _ _ _ hP hS (lv_sub hl [2, 1, 0] rfl) hs
  unfold sX6_visibleOnes at hs
  refine lv_iconst (v := 0) hx hb dX6_visibleOnes_0 (by decide) ?_
  refine lv_istore_n (lv' := [(1, .int 0), (0, .ref (ad 81))]) hx hb dX6_visibleOnes_1 rfl hl (by decide) rfl (fun ls hl => ?_)
  refine lv_iconst (v := 0) hx hb dX6_visibleOnes_2 (by decide) ?_
  refine lv_istore_n (lv' := [(2, .int 0), (1, .int 0), (0, .ref (ad 81))]) hx hb dX6_visibleOnes_3 rfl hl (by decide) rfl (fun ls hl => ?_)
  exact hL_4 n 0 0 _ _ _ hP hS (lv_sub hl [2, 1, 0] rfl) hs
set_option maxHeartbeats 4000000 in
set_option maxRecDepth 100000 in
theorem cX6_suitableOnes_c (l : Launch) (D : va_G) (cy : Nat → ClassId) (ad : Nat → Nat) (tL z0 : Nat) (hI : gI z0 ad) (n : Nat) (v : gV) (u : Int64) (x1 : Int32) (r0 : Int32) (hs : sX6_suitableOnes n v x1 = some r0) : Met l yX6_suitableOnes wsX6_suitableOnes ({ frames := 4, cells := 0, slots := 0, locals := 87 } : Room) (gPc D cy ad tL z0 v u [.ref (ad 81), .int x1]) (gQi D cy ad tL z0 v u r0) 0 0 (gA z0) := by
  refine Met.ofW (cc := cX6_suitableOnes) (maxL := 4) (ret := (some .int)) (by decide) rfl ?_
  intro p e s m args below meth c s₁ B hml hv
  obtain ⟨rfl, hB0⟩ := hv
  have hP : va_P D vwCl (gW cy ad v u) s.heap := hB0.1
  have hK : gK D cy tL z0 s s.heap := hB0.2
  have hx := B.exec
  have hb := B.bytes
  have hr := B.returns
  have hts := atoms_spec (ws := wsX6_suitableOnes) B.pre
  have hown : s.vm.findClass RX6 = some m.cls := findClass_of_methodNamed B.named
  have hlocks := B.notSynchronized
  have hS : va_S (gA z0) s.heap s.heap [] := va_S.rf
  have hl := lv_entry ([.ref (ad 81), .int x1]) (n := 4) (Nat.le_of_ble_eq_true rfl)
  rw [lg_entry_eq]
  generalize (lg_sl ([.ref (ad 81), .int x1]) ++ List.replicate (4 - (lg_sl ([.ref (ad 81), .int x1])).length) Slot.unset).toArray = ls at hl ⊢
  have hl : lv_has ls 4 [(0, .ref (ad 81)), (1, .int x1)] := hl
  have iX6 := (show ∀ w ∈ u_ws RX6 TX6 17, w ∈ wsX6_suitableOnes by decide +kernel)
  have f16 := hts (.fieldLink RX6 16 "AdventureParserModel" "s" "[I") (by decide +kernel)
  clear hB0
  have hL_4 : ∀ (k : Nat), ∀ (w1 : Int32) (w2 : Int32) (w3 : Int32) (H : Heap) (locs : List Loc) (ls : Array Slot), va_P D vwCl (gW cy ad v u) H → va_S (gA z0) s.heap H locs → lv_has ls 4 [(0, .ref (ad 81)), (1, .int w1), (2, .int w2), (3, .int w3)] → sX6_suitableOnes_4 n k v w1 w2 w3 = some r0 → W p l e (headSpec wsX6_suitableOnes ({ frames := 4, cells := 0, slots := 0, locals := 87 } : Room)).room s m ([.ref (ad 81), .int x1] : List Value).toArray below meth c H locs 0 0 (MQ below (gQi D cy ad tL z0 v u r0) ([.ref (ad 81), .int x1] : List Value).toArray s 0 0 (gA z0)) (F0 m 4 ls []) := by
    intro k
    induction k with
    | zero =>
      intro w1 w2 w3 H locs ls hP hS hl hs
      exact g_none hs
    | succ k ih =>
      intro w1 w2 w3 H locs ls hP hS hl hs
      rw [sX6_suitableOnes_4] at hs
      refine lv_iload_n hx hb dX6_suitableOnes_4 rfl (lv_at hl 3 rfl) ?_
      refine lv_aload_n hx hb dX6_suitableOnes_5 rfl (lv_at hl 0 rfl) ?_
      refine va_get (D := D) (ci := 6) (v := .ref (ad 84)) (C := RX6) (T := TX6) (N := 17) hx hb hts iX6 hown hK.1 hP 81 (gW_6 kd81) rfl 2 (by decide) f16 (fun _ h9 => h9) rfl dX6_suitableOnes_6 ?_
      refine lv_iconst (v := 0) hx hb dX6_suitableOnes_9 (by decide) ?_
      refine va_iald (i := 0) hx hb hK.1 hP 84 0 (gW_16 kd84) rfl (by unfold vp_in; decide) dX6_suitableOnes_10 ?_
      refine lv_icmp_ge (tgt := 54) hx hb dX6_suitableOnes_11 (by decide) (fun hc => ?_) (fun hc => ?_)
      · have hs := g_t hs hc
        refine lv_iload_n hx hb dX6_suitableOnes_54 rfl (lv_at hl 2 rfl) ?_
        exact gRet_i hx hb hr hlocks hK hP hS ⟨g_some hs, rfl⟩ dX6_suitableOnes_55
      · have hs := g_f hs hc
        refine lv_iload_n hx hb dX6_suitableOnes_14 rfl (lv_at hl 2 rfl) ?_
        refine lv_iload_n hx hb dX6_suitableOnes_15 rfl (lv_at hl 1 rfl) ?_
        refine lv_if_ge (tgt := 30) hx hb dX6_suitableOnes_16 (by decide) (fun hc => ?_) (fun hc => ?_)
        · have hs := g_t hs hc
          refine lv_aload_n hx hb dX6_suitableOnes_30 rfl (lv_at hl 0 rfl) ?_
          refine lv_iload_n hx hb dX6_suitableOnes_31 rfl (lv_at hl 3 rfl) ?_
          refine lv_iload_n hx hb dX6_suitableOnes_32 rfl (lv_at hl 1 rfl) ?_
          refine g_bind hs (fun q_1 hq_1 hs => ?_)
          refine gCV_i (As := [.int w3, .int w1]) (rest := [.int w2]) ⟨hx, hb, hml, hown, hts⟩ (cX6_suits_c l D cy ad tL z0 hI v u w3 w1 q_1 hq_1) (cwV 2 hts gX6_suitableOnes_X6_suits rfl rfl rfl (by decide +kernel) ⟨Nat.le_of_ble_eq_true rfl, Nat.le_of_ble_eq_true rfl⟩) hK hP hS (va_recv hK.1 hP (ci := 6) (q0 := 81) rfl (gW_6 kd81)) hl.1 rfl rfl (Nat.le_of_ble_eq_true rfl) dX6_suitableOnes_33 ⟨Nat.zero_le _, Nat.zero_le _⟩ (fun H locs hP hS => ?_)
          refine lv_if_eq (tgt := 45) hx hb dX6_suitableOnes_36 (by decide) (fun hc => ?_) (fun hc => ?_)
          · have hs := g_t hs hc
            refine lv_iconst (v := 0) hx hb dX6_suitableOnes_45 (by decide) ?_
            refine lv_ior hx hb dX6_suitableOnes_46 ?_
            refine lv_istore_n (lv' := [(2, .int (w2 ||| 0)), (0, .ref (ad 81)), (1, .int w1), (3, .int w3)]) hx hb dX6_suitableOnes_47 rfl hl (by decide) rfl (fun ls hl => ?_)
            refine lv_iinc (v := w3 + 1) (lv' := [(3, .int (w3 + 1)), (2, .int (w2 ||| 0)), (0, .ref (ad 81)), (1, .int w1)]) hx hb dX6_suitableOnes_48 hl (k := 3) rfl rfl (by decide) rfl (fun ls hl => ?_)
            refine lv_goto (tgt := 4) hx hb dX6_suitableOnes_51 (by decide) ?_
            exact ih w1 (w2 ||| 0) (w3 + 1) _ _ _ hP hS (lv_sub hl [2, 3, 1, 0] rfl) hs
          · have hs := g_f hs hc
            refine lv_iconst (v := 1) hx hb dX6_suitableOnes_39 (by decide) ?_
            refine lv_iload_n hx hb dX6_suitableOnes_40 rfl (lv_at hl 3 rfl) ?_
            refine lv_ishl hx hb dX6_suitableOnes_41 ?_
            refine lv_goto (tgt := 46) hx hb dX6_suitableOnes_42 (by decide) ?_
            refine lv_ior hx hb dX6_suitableOnes_46 ?_
            refine lv_istore_n (lv' := [(2, .int (w2 ||| ((1 : Int32) <<< (w3 &&& 31)))), (0, .ref (ad 81)), (1, .int w1), (3, .int w3)]) hx hb dX6_suitableOnes_47 rfl hl (by decide) rfl (fun ls hl => ?_)
            refine lv_iinc (v := w3 + 1) (lv' := [(3, .int (w3 + 1)), (2, .int (w2 ||| ((1 : Int32) <<< (w3 &&& 31)))), (0, .ref (ad 81)), (1, .int w1)]) hx hb dX6_suitableOnes_48 hl (k := 3) rfl rfl (by decide) rfl (fun ls hl => ?_)
            refine lv_goto (tgt := 4) hx hb dX6_suitableOnes_51 (by decide) ?_
            exact ih w1 (w2 ||| ((1 : Int32) <<< (w3 &&& 31))) (w3 + 1) _ _ _ hP hS (lv_sub hl [2, 3, 1, 0] rfl) hs
        · have hs := g_f hs hc
          refine lv_aload_n hx hb dX6_suitableOnes_19 rfl (lv_at hl 0 rfl) ?_
          refine lv_iload_n hx hb dX6_suitableOnes_20 rfl (lv_at hl 3 rfl) ?_
          refine g_bind hs (fun q_2 hq_2 hs => ?_)
          refine gCV_i (As := [.int w3]) (rest := [.int w2]) ⟨hx, hb, hml, hown, hts⟩ (cX6_isTarget_c l D cy ad tL z0 hI v u w3 q_2 hq_2) (cwV 1 hts gX6_suitableOnes_X6_isTarget rfl rfl rfl (by decide +kernel) ⟨Nat.le_of_ble_eq_true rfl, Nat.le_of_ble_eq_true rfl⟩) hK hP hS (va_recv hK.1 hP (ci := 6) (q0 := 81) rfl (gW_6 kd81)) hl.1 rfl rfl (Nat.le_of_ble_eq_true rfl) dX6_suitableOnes_21 ⟨Nat.zero_le _, Nat.zero_le _⟩ (fun H locs hP hS => ?_)
          refine lv_if_eq (tgt := 45) hx hb dX6_suitableOnes_24 (by decide) (fun hc => ?_) (fun hc => ?_)
          · have hs := g_t hs hc
            refine lv_iconst (v := 0) hx hb dX6_suitableOnes_45 (by decide) ?_
            refine lv_ior hx hb dX6_suitableOnes_46 ?_
            refine lv_istore_n (lv' := [(2, .int (w2 ||| 0)), (0, .ref (ad 81)), (1, .int w1), (3, .int w3)]) hx hb dX6_suitableOnes_47 rfl hl (by decide) rfl (fun ls hl => ?_)
            refine lv_iinc (v := w3 + 1) (lv' := [(3, .int (w3 + 1)), (2, .int (w2 ||| 0)), (0, .ref (ad 81)), (1, .int w1)]) hx hb dX6_suitableOnes_48 hl (k := 3) rfl rfl (by decide) rfl (fun ls hl => ?_)
            refine lv_goto (tgt := 4) hx hb dX6_suitableOnes_51 (by decide) ?_
            exact ih w1 (w2 ||| 0) (w3 + 1) _ _ _ hP hS (lv_sub hl [2, 3, 1, 0] rfl) hs
          · have hs := g_f hs hc
            refine lv_goto (tgt := 39) hx hb dX6_suitableOnes_27 (by decide) ?_
            refine lv_iconst (v := 1) hx hb dX6_suitableOnes_39 (by decide) ?_
            refine lv_iload_n hx hb dX6_suitableOnes_40 rfl (lv_at hl 3 rfl) ?_
            refine lv_ishl hx hb dX6_suitableOnes_41 ?_
            refine lv_goto (tgt := 46) hx hb dX6_suitableOnes_42 (by decide) ?_
            refine lv_ior hx hb dX6_suitableOnes_46 ?_
            refine lv_istore_n (lv' := [(2, .int (w2 ||| ((1 : Int32) <<< (w3 &&& 31)))), (0, .ref (ad 81)), (1, .int w1), (3, .int w3)]) hx hb dX6_suitableOnes_47 rfl hl (by decide) rfl (fun ls hl => ?_)
            refine lv_iinc (v := w3 + 1) (lv' := [(3, .int (w3 + 1)), (2, .int (w2 ||| ((1 : Int32) <<< (w3 &&& 31)))), (0, .ref (ad 81)), (1, .int w1)]) hx hb dX6_suitableOnes_48 hl (k := 3) rfl rfl (by decide) rfl (fun ls hl => ?_)
            refine lv_goto (tgt := 4) hx hb dX6_suitableOnes_51 (by decide) ?_
            exact ih w1 (w2 ||| ((1 : Int32) <<< (w3 &&& 31))) (w3 + 1) _ _ _ hP hS (lv_sub hl [2, 3, 1, 0] rfl) hs
  unfold sX6_suitableOnes at hs
  refine lv_iconst (v := 0) hx hb dX6_suitableOnes_0 (by decide) ?_
  refine lv_istore_n (lv' := [(2, .int 0), (0, .ref (ad 81)), (1, .int x1)]) hx hb dX6_suitableOnes_1 rfl hl (by decide) rfl (fun ls hl => ?_)
  refine lv_iconst (v := 0) hx hb dX6_suitableOnes_2 (by decide) ?_
  refine lv_istore_n (lv' := [(3, .int 0), (2, .int 0), (0, .ref (ad 81)), (1, .int x1)]) hx hb dX6_suitableOnes_3 rfl hl (by decide) rfl (fun ls hl => ?_)
  exact hL_4 n x1 0 0 _ _ _ hP hS (lv_sub hl [2, 3, 1, 0] rfl) hs
set_option maxHeartbeats 4000000 in
set_option maxRecDepth 100000 in
theorem cX6_fittingOnes_c (l : Launch) (D : va_G) (cy : Nat → ClassId) (ad : Nat → Nat) (tL z0 : Nat) (hI : gI z0 ad) (n : Nat) (v : gV) (u : Int64) (x1 : Int32) (x2 : Int32) (r0 : Int32) (hs : sX6_fittingOnes n v x1 x2 = some r0) : Met l yX6_fittingOnes wsX6_fittingOnes ({ frames := 1, cells := 0, slots := 0, locals := 22 } : Room) (gPc D cy ad tL z0 v u [.ref (ad 81), .int x1, .int x2]) (gQi D cy ad tL z0 v u r0) 0 0 (gA z0) := by
  refine Met.ofW (cc := cX6_fittingOnes) (maxL := 5) (ret := (some .int)) (by decide) rfl ?_
  intro p e s m args below meth c s₁ B hml hv
  obtain ⟨rfl, hB0⟩ := hv
  have hP : va_P D vwCl (gW cy ad v u) s.heap := hB0.1
  have hK : gK D cy tL z0 s s.heap := hB0.2
  have hx := B.exec
  have hb := B.bytes
  have hr := B.returns
  have hts := atoms_spec (ws := wsX6_fittingOnes) B.pre
  have hown : s.vm.findClass RX6 = some m.cls := findClass_of_methodNamed B.named
  have hlocks := B.notSynchronized
  have hS : va_S (gA z0) s.heap s.heap [] := va_S.rf
  have hl := lv_entry ([.ref (ad 81), .int x1, .int x2]) (n := 5) (Nat.le_of_ble_eq_true rfl)
  rw [lg_entry_eq]
  generalize (lg_sl ([.ref (ad 81), .int x1, .int x2]) ++ List.replicate (5 - (lg_sl ([.ref (ad 81), .int x1, .int x2])).length) Slot.unset).toArray = ls at hl ⊢
  have hl : lv_has ls 5 [(0, .ref (ad 81)), (1, .int x1), (2, .int x2)] := hl
  have iX6 := (show ∀ w ∈ u_ws RX6 TX6 17, w ∈ wsX6_fittingOnes by decide +kernel)
  have f16 := hts (.fieldLink RX6 16 "AdventureParserModel" "s" "[I") (by decide +kernel)
  clear hB0
  have hL_5 : ∀ (k : Nat), ∀ (w1 : Int32) (w2 : Int32) (w3 : Int32) (w4 : Int32) (H : Heap) (locs : List Loc) (ls : Array Slot), va_P D vwCl (gW cy ad v u) H → va_S (gA z0) s.heap H locs → lv_has ls 5 [(0, .ref (ad 81)), (1, .int w1), (2, .int w2), (3, .int w3), (4, .int w4)] → sX6_fittingOnes_5 n k v w1 w2 w3 w4 = some r0 → W p l e (headSpec wsX6_fittingOnes ({ frames := 1, cells := 0, slots := 0, locals := 22 } : Room)).room s m ([.ref (ad 81), .int x1, .int x2] : List Value).toArray below meth c H locs 0 0 (MQ below (gQi D cy ad tL z0 v u r0) ([.ref (ad 81), .int x1, .int x2] : List Value).toArray s 0 0 (gA z0)) (F0 m 5 ls []) := by
    intro k
    induction k with
    | zero =>
      intro w1 w2 w3 w4 H locs ls hP hS hl hs
      exact g_none hs
    | succ k ih =>
      intro w1 w2 w3 w4 H locs ls hP hS hl hs
      rw [sX6_fittingOnes_5] at hs
      refine lv_iload hx hb dX6_fittingOnes_5 (lv_at hl 4 rfl) ?_
      refine lv_aload_n hx hb dX6_fittingOnes_7 rfl (lv_at hl 0 rfl) ?_
      refine va_get (D := D) (ci := 6) (v := .ref (ad 84)) (C := RX6) (T := TX6) (N := 17) hx hb hts iX6 hown hK.1 hP 81 (gW_6 kd81) rfl 2 (by decide) f16 (fun _ h9 => h9) rfl dX6_fittingOnes_8 ?_
      refine lv_iconst (v := 0) hx hb dX6_fittingOnes_11 (by decide) ?_
      refine va_iald (i := 0) hx hb hK.1 hP 84 0 (gW_16 kd84) rfl (by unfold vp_in; decide) dX6_fittingOnes_12 ?_
      refine lv_icmp_ge (tgt := 59) hx hb dX6_fittingOnes_13 (by decide) (fun hc => ?_) (fun hc => ?_)
      · have hs := g_t hs hc
        refine lv_iload_n hx hb dX6_fittingOnes_59 rfl (lv_at hl 3 rfl) ?_
        exact gRet_i hx hb hr hlocks hK hP hS ⟨g_some hs, rfl⟩ dX6_fittingOnes_60
      · have hs := g_f hs hc
        refine lv_iload_n hx hb dX6_fittingOnes_16 rfl (lv_at hl 3 rfl) ?_
        refine lv_aload_n hx hb dX6_fittingOnes_17 rfl (lv_at hl 0 rfl) ?_
        refine lv_iload hx hb dX6_fittingOnes_18 (lv_at hl 4 rfl) ?_
        refine lv_iconst (v := 0) hx hb dX6_fittingOnes_20 (by decide) ?_
        refine g_bind hs (fun q_1 hq_1 hs => ?_)
        refine gCV_i (As := [.int w4, .int 0]) (rest := [.int w3]) ⟨hx, hb, hml, hown, hts⟩ (cX6_of_c l D cy ad tL z0 hI v u w4 0 q_1 hq_1) (cwV 2 hts gX6_fittingOnes_X6_of rfl rfl rfl (by decide +kernel) ⟨Nat.le_of_ble_eq_true rfl, Nat.le_of_ble_eq_true rfl⟩) hK hP hS (va_recv hK.1 hP (ci := 6) (q0 := 81) rfl (gW_6 kd81)) hl.1 rfl rfl (Nat.le_of_ble_eq_true rfl) dX6_fittingOnes_21 ⟨Nat.zero_le _, Nat.zero_le _⟩ (fun H locs hP hS => ?_)
        refine lv_iload_n hx hb dX6_fittingOnes_24 rfl (lv_at hl 1 rfl) ?_
        refine lv_icmp_ne (tgt := 50) hx hb dX6_fittingOnes_25 (by decide) (fun hc => ?_) (fun hc => ?_)
        · have hs := g_f hs hc
          refine lv_iconst (v := 0) hx hb dX6_fittingOnes_50 (by decide) ?_
          refine lv_ior hx hb dX6_fittingOnes_51 ?_
          refine lv_istore_n (lv' := [(3, .int (w3 ||| 0)), (0, .ref (ad 81)), (1, .int w1), (2, .int w2), (4, .int w4)]) hx hb dX6_fittingOnes_52 rfl hl (by decide) rfl (fun ls hl => ?_)
          refine lv_iinc (v := w4 + 1) (lv' := [(4, .int (w4 + 1)), (3, .int (w3 ||| 0)), (0, .ref (ad 81)), (1, .int w1), (2, .int w2)]) hx hb dX6_fittingOnes_53 hl (k := 4) rfl rfl (by decide) rfl (fun ls hl => ?_)
          refine lv_goto (tgt := 5) hx hb dX6_fittingOnes_56 (by decide) ?_
          exact ih w1 w2 (w3 ||| 0) (w4 + 1) _ _ _ hP hS (lv_sub hl [2, 3, 4, 1, 0] rfl) hs
        · have hs := g_t hs hc
          refine lv_iload_n hx hb dX6_fittingOnes_28 rfl (lv_at hl 2 rfl) ?_
          refine lv_if_lt (tgt := 43) hx hb dX6_fittingOnes_29 (by decide) (fun hc => ?_) (fun hc => ?_)
          · have hs := g_t hs hc
            refine lv_iconst (v := 1) hx hb dX6_fittingOnes_43 (by decide) ?_
            refine lv_iload hx hb dX6_fittingOnes_44 (lv_at hl 4 rfl) ?_
            refine lv_ishl hx hb dX6_fittingOnes_46 ?_
            refine lv_goto (tgt := 51) hx hb dX6_fittingOnes_47 (by decide) ?_
            refine lv_ior hx hb dX6_fittingOnes_51 ?_
            refine lv_istore_n (lv' := [(3, .int (w3 ||| ((1 : Int32) <<< (w4 &&& 31)))), (0, .ref (ad 81)), (1, .int w1), (2, .int w2), (4, .int w4)]) hx hb dX6_fittingOnes_52 rfl hl (by decide) rfl (fun ls hl => ?_)
            refine lv_iinc (v := w4 + 1) (lv' := [(4, .int (w4 + 1)), (3, .int (w3 ||| ((1 : Int32) <<< (w4 &&& 31)))), (0, .ref (ad 81)), (1, .int w1), (2, .int w2)]) hx hb dX6_fittingOnes_53 hl (k := 4) rfl rfl (by decide) rfl (fun ls hl => ?_)
            refine lv_goto (tgt := 5) hx hb dX6_fittingOnes_56 (by decide) ?_
            exact ih w1 w2 (w3 ||| ((1 : Int32) <<< (w4 &&& 31))) (w4 + 1) _ _ _ hP hS (lv_sub hl [2, 3, 4, 1, 0] rfl) hs
          · have hs := g_f hs hc
            refine lv_aload_n hx hb dX6_fittingOnes_32 rfl (lv_at hl 0 rfl) ?_
            refine lv_iload hx hb dX6_fittingOnes_33 (lv_at hl 4 rfl) ?_
            refine lv_iconst (v := 1) hx hb dX6_fittingOnes_35 (by decide) ?_
            refine g_bind hs (fun q_2 hq_2 hs => ?_)
            refine gCV_i (As := [.int w4, .int 1]) (rest := [.int w3]) ⟨hx, hb, hml, hown, hts⟩ (cX6_of_c l D cy ad tL z0 hI v u w4 1 q_2 hq_2) (cwV 2 hts gX6_fittingOnes_X6_of rfl rfl rfl (by decide +kernel) ⟨Nat.le_of_ble_eq_true rfl, Nat.le_of_ble_eq_true rfl⟩) hK hP hS (va_recv hK.1 hP (ci := 6) (q0 := 81) rfl (gW_6 kd81)) hl.1 rfl rfl (Nat.le_of_ble_eq_true rfl) dX6_fittingOnes_36 ⟨Nat.zero_le _, Nat.zero_le _⟩ (fun H locs hP hS => ?_)
            refine lv_iload_n hx hb dX6_fittingOnes_39 rfl (lv_at hl 2 rfl) ?_
            refine lv_icmp_ne (tgt := 50) hx hb dX6_fittingOnes_40 (by decide) (fun hc => ?_) (fun hc => ?_)
            · have hs := g_f hs hc
              refine lv_iconst (v := 0) hx hb dX6_fittingOnes_50 (by decide) ?_
              refine lv_ior hx hb dX6_fittingOnes_51 ?_
              refine lv_istore_n (lv' := [(3, .int (w3 ||| 0)), (0, .ref (ad 81)), (1, .int w1), (2, .int w2), (4, .int w4)]) hx hb dX6_fittingOnes_52 rfl hl (by decide) rfl (fun ls hl => ?_)
              refine lv_iinc (v := w4 + 1) (lv' := [(4, .int (w4 + 1)), (3, .int (w3 ||| 0)), (0, .ref (ad 81)), (1, .int w1), (2, .int w2)]) hx hb dX6_fittingOnes_53 hl (k := 4) rfl rfl (by decide) rfl (fun ls hl => ?_)
              refine lv_goto (tgt := 5) hx hb dX6_fittingOnes_56 (by decide) ?_
              exact ih w1 w2 (w3 ||| 0) (w4 + 1) _ _ _ hP hS (lv_sub hl [2, 3, 4, 1, 0] rfl) hs
            · have hs := g_t hs hc
              refine lv_iconst (v := 1) hx hb dX6_fittingOnes_43 (by decide) ?_
              refine lv_iload hx hb dX6_fittingOnes_44 (lv_at hl 4 rfl) ?_
              refine lv_ishl hx hb dX6_fittingOnes_46 ?_
              refine lv_goto (tgt := 51) hx hb dX6_fittingOnes_47 (by decide) ?_
              refine lv_ior hx hb dX6_fittingOnes_51 ?_
              refine lv_istore_n (lv' := [(3, .int (w3 ||| ((1 : Int32) <<< (w4 &&& 31)))), (0, .ref (ad 81)), (1, .int w1), (2, .int w2), (4, .int w4)]) hx hb dX6_fittingOnes_52 rfl hl (by decide) rfl (fun ls hl => ?_)
              refine lv_iinc (v := w4 + 1) (lv' := [(4, .int (w4 + 1)), (3, .int (w3 ||| ((1 : Int32) <<< (w4 &&& 31)))), (0, .ref (ad 81)), (1, .int w1), (2, .int w2)]) hx hb dX6_fittingOnes_53 hl (k := 4) rfl rfl (by decide) rfl (fun ls hl => ?_)
              refine lv_goto (tgt := 5) hx hb dX6_fittingOnes_56 (by decide) ?_
              exact ih w1 w2 (w3 ||| ((1 : Int32) <<< (w4 &&& 31))) (w4 + 1) _ _ _ hP hS (lv_sub hl [2, 3, 4, 1, 0] rfl) hs
  unfold sX6_fittingOnes at hs
  refine lv_iconst (v := 0) hx hb dX6_fittingOnes_0 (by decide) ?_
  refine lv_istore_n (lv' := [(3, .int 0), (0, .ref (ad 81)), (1, .int x1), (2, .int x2)]) hx hb dX6_fittingOnes_1 rfl hl (by decide) rfl (fun ls hl => ?_)
  refine lv_iconst (v := 0) hx hb dX6_fittingOnes_2 (by decide) ?_
  refine lv_istore (lv' := [(4, .int 0), (3, .int 0), (0, .ref (ad 81)), (1, .int x1), (2, .int x2)]) hx hb dX6_fittingOnes_3 hl (by decide) rfl (fun ls hl => ?_)
  exact hL_5 n x1 x2 0 0 _ _ _ hP hS (lv_sub hl [2, 3, 4, 1, 0] rfl) hs
set_option maxHeartbeats 4000000 in
set_option maxRecDepth 100000 in
theorem cX6_size_c (l : Launch) (D : va_G) (cy : Nat → ClassId) (ad : Nat → Nat) (tL z0 : Nat) (hI : gI z0 ad) (n : Nat) (v : gV) (u : Int64) (x0 : Int32) (r0 : Int32) (hs : sX6_size n x0 = some r0) : Met l yX6_size wsX6_size ({ frames := 0, cells := 0, slots := 0, locals := 0 } : Room) (gPc D cy ad tL z0 v u [.int x0]) (gQi D cy ad tL z0 v u r0) 0 0 (gA z0) := by
  refine Met.ofW (cc := cX6_size) (maxL := 3) (ret := (some .int)) (by decide) rfl ?_
  intro p e s m args below meth c s₁ B hml hv
  obtain ⟨rfl, hB0⟩ := hv
  have hP : va_P D vwCl (gW cy ad v u) s.heap := hB0.1
  have hK : gK D cy tL z0 s s.heap := hB0.2
  have hx := B.exec
  have hb := B.bytes
  have hr := B.returns
  have hts := atoms_spec (ws := wsX6_size) B.pre
  have hown : s.vm.findClass RX6 = some m.cls := findClass_of_methodNamed B.named
  have hlocks := B.notSynchronized
  have hS : va_S (gA z0) s.heap s.heap [] := va_S.rf
  have hl := lv_entry ([.int x0]) (n := 3) (Nat.le_of_ble_eq_true rfl)
  rw [lg_entry_eq]
  generalize (lg_sl ([.int x0]) ++ List.replicate (3 - (lg_sl ([.int x0])).length) Slot.unset).toArray = ls at hl ⊢
  have hl : lv_has ls 3 [(0, .int x0)] := hl
  clear hB0
  have hL_4 : ∀ (k : Nat), ∀ (w1 : Int32) (w2 : Int32) (H : Heap) (locs : List Loc) (ls : Array Slot), va_P D vwCl (gW cy ad v u) H → va_S (gA z0) s.heap H locs → lv_has ls 3 [(1, .int w1), (2, .int w2)] → sX6_size_4 n k w1 w2 = some r0 → W p l e (headSpec wsX6_size ({ frames := 0, cells := 0, slots := 0, locals := 0 } : Room)).room s m ([.int x0] : List Value).toArray below meth c H locs 0 0 (MQ below (gQi D cy ad tL z0 v u r0) ([.int x0] : List Value).toArray s 0 0 (gA z0)) (F0 m 4 ls []) := by
    intro k
    induction k with
    | zero =>
      intro w1 w2 H locs ls hP hS hl hs
      exact g_none hs
    | succ k ih =>
      intro w1 w2 H locs ls hP hS hl hs
      rw [sX6_size_4] at hs
      refine lv_iload_n hx hb dX6_size_4 rfl (lv_at hl 1 rfl) ?_
      refine lv_if_le (tgt := 21) hx hb dX6_size_5 (by decide) (fun hc => ?_) (fun hc => ?_)
      · have hs := g_t hs hc
        refine lv_iload_n hx hb dX6_size_21 rfl (lv_at hl 0 rfl) ?_
        exact gRet_i hx hb hr hlocks hK hP hS ⟨g_some hs, rfl⟩ dX6_size_22
      · have hs := g_f hs hc
        refine lv_iload_n hx hb dX6_size_8 rfl (lv_at hl 0 rfl) ?_
        refine lv_iload_n hx hb dX6_size_9 rfl (lv_at hl 1 rfl) ?_
        refine lv_iconst (v := 2) hx hb dX6_size_10 (by decide) ?_
        refine lv_irem hx hb dX6_size_11 (by decide) ?_
        refine lv_iadd hx hb dX6_size_12 ?_
        refine lv_istore_n (lv' := [(1, .int (w1 + (w2 - w2 / 2 * 2))), (2, .int w2)]) hx hb dX6_size_13 rfl hl (by decide) rfl (fun ls hl => ?_)
        refine lv_iload_n hx hb dX6_size_14 rfl (lv_at hl 1 rfl) ?_
        refine lv_iconst (v := 2) hx hb dX6_size_15 (by decide) ?_
        refine lv_idiv hx hb dX6_size_16 (by decide) ?_
        refine lv_istore_n (lv' := [(2, .int (w2 / 2)), (1, .int (w1 + (w2 - w2 / 2 * 2)))]) hx hb dX6_size_17 rfl hl (by decide) rfl (fun ls hl => ?_)
        refine lv_goto (tgt := 4) hx hb dX6_size_18 (by decide) ?_
        exact ih (w1 + (w2 - w2 / 2 * 2)) (w2 / 2) _ _ _ hP hS (lv_sub hl [1, 0] rfl) hs
  unfold sX6_size at hs
  refine lv_iconst (v := 0) hx hb dX6_size_0 (by decide) ?_
  refine lv_istore_n (lv' := [(1, .int 0), (0, .int x0)]) hx hb dX6_size_1 rfl hl (by decide) rfl (fun ls hl => ?_)
  refine lv_iload_n hx hb dX6_size_2 rfl (lv_at hl 1 rfl) ?_
  refine lv_istore_n (lv' := [(2, .int x0), (1, .int 0), (0, .int x0)]) hx hb dX6_size_3 rfl hl (by decide) rfl (fun ls hl => ?_)
  exact hL_4 n 0 x0 _ _ _ hP hS (lv_sub hl [1, 0] rfl) hs
set_option maxHeartbeats 4000000 in
set_option maxRecDepth 100000 in
theorem cX6_lowest_c (l : Launch) (D : va_G) (cy : Nat → ClassId) (ad : Nat → Nat) (tL z0 : Nat) (hI : gI z0 ad) (n : Nat) (v : gV) (u : Int64) (x0 : Int32) (r0 : Int32) (hs : sX6_lowest n x0 = some r0) : Met l yX6_lowest wsX6_lowest ({ frames := 0, cells := 0, slots := 0, locals := 0 } : Room) (gPc D cy ad tL z0 v u [.int x0]) (gQi D cy ad tL z0 v u r0) 0 0 (gA z0) := by
  refine Met.ofW (cc := cX6_lowest) (maxL := 2) (ret := (some .int)) (by decide) rfl ?_
  intro p e s m args below meth c s₁ B hml hv
  obtain ⟨rfl, hB0⟩ := hv
  have hP : va_P D vwCl (gW cy ad v u) s.heap := hB0.1
  have hK : gK D cy tL z0 s s.heap := hB0.2
  have hx := B.exec
  have hb := B.bytes
  have hr := B.returns
  have hts := atoms_spec (ws := wsX6_lowest) B.pre
  have hown : s.vm.findClass RX6 = some m.cls := findClass_of_methodNamed B.named
  have hlocks := B.notSynchronized
  have hS : va_S (gA z0) s.heap s.heap [] := va_S.rf
  have hl := lv_entry ([.int x0]) (n := 2) (Nat.le_of_ble_eq_true rfl)
  rw [lg_entry_eq]
  generalize (lg_sl ([.int x0]) ++ List.replicate (2 - (lg_sl ([.int x0])).length) Slot.unset).toArray = ls at hl ⊢
  have hl : lv_has ls 2 [(0, .int x0)] := hl
  clear hB0
  have hL_2 : ∀ (k : Nat), ∀ (w0 : Int32) (w1 : Int32) (H : Heap) (locs : List Loc) (ls : Array Slot), va_P D vwCl (gW cy ad v u) H → va_S (gA z0) s.heap H locs → lv_has ls 2 [(0, .int w0), (1, .int w1)] → sX6_lowest_2 n k w0 w1 = some r0 → W p l e (headSpec wsX6_lowest ({ frames := 0, cells := 0, slots := 0, locals := 0 } : Room)).room s m ([.int x0] : List Value).toArray below meth c H locs 0 0 (MQ below (gQi D cy ad tL z0 v u r0) ([.int x0] : List Value).toArray s 0 0 (gA z0)) (F0 m 2 ls []) := by
    intro k
    induction k with
    | zero =>
      intro w0 w1 H locs ls hP hS hl hs
      exact g_none hs
    | succ k ih =>
      intro w0 w1 H locs ls hP hS hl hs
      rw [sX6_lowest_2] at hs
      refine lv_iload_n hx hb dX6_lowest_2 rfl (lv_at hl 0 rfl) ?_
      refine lv_iload_n hx hb dX6_lowest_3 rfl (lv_at hl 1 rfl) ?_
      refine lv_ishr hx hb dX6_lowest_4 ?_
      refine lv_iconst (v := 1) hx hb dX6_lowest_5 (by decide) ?_
      refine lv_iand hx hb dX6_lowest_6 ?_
      refine lv_if_ne (tgt := 16) hx hb dX6_lowest_7 (by decide) (fun hc => ?_) (fun hc => ?_)
      · have hs := g_f hs hc
        refine lv_iload_n hx hb dX6_lowest_16 rfl (lv_at hl 1 rfl) ?_
        exact gRet_i hx hb hr hlocks hK hP hS ⟨g_some hs, rfl⟩ dX6_lowest_17
      · have hs := g_t hs hc
        refine lv_iinc (v := w1 + 1) (lv' := [(1, .int (w1 + 1)), (0, .int w0)]) hx hb dX6_lowest_10 hl (k := 1) rfl rfl (by decide) rfl (fun ls hl => ?_)
        refine lv_goto (tgt := 2) hx hb dX6_lowest_13 (by decide) ?_
        exact ih w0 (w1 + 1) _ _ _ hP hS (lv_sub hl [1, 0] rfl) hs
  unfold sX6_lowest at hs
  refine lv_iconst (v := 0) hx hb dX6_lowest_0 (by decide) ?_
  refine lv_istore_n (lv' := [(1, .int 0), (0, .int x0)]) hx hb dX6_lowest_1 rfl hl (by decide) rfl (fun ls hl => ?_)
  exact hL_2 n x0 0 _ _ _ hP hS (lv_sub hl [1, 0] rfl) hs
set_option maxHeartbeats 4000000 in
set_option maxRecDepth 100000 in
theorem cX6_isNoun_c (l : Launch) (D : va_G) (cy : Nat → ClassId) (ad : Nat → Nat) (tL z0 : Nat) (hI : gI z0 ad) (v : gV) (u : Int64) (x0 : Int32) (r0 : Int32) (hs : sX6_isNoun x0 = some r0) : Met l yX6_isNoun wsX6_isNoun ({ frames := 0, cells := 0, slots := 0, locals := 0 } : Room) (gPc D cy ad tL z0 v u [.int x0]) (gQi D cy ad tL z0 v u r0) 0 0 (gA z0) := by
  refine Met.ofW (cc := cX6_isNoun) (maxL := 1) (ret := (some .boolean)) (by decide) rfl ?_
  intro p e s m args below meth c s₁ B hml hv
  obtain ⟨rfl, hB0⟩ := hv
  have hP : va_P D vwCl (gW cy ad v u) s.heap := hB0.1
  have hK : gK D cy tL z0 s s.heap := hB0.2
  have hx := B.exec
  have hb := B.bytes
  have hr := B.returns
  have hts := atoms_spec (ws := wsX6_isNoun) B.pre
  have hown : s.vm.findClass RX6 = some m.cls := findClass_of_methodNamed B.named
  have hlocks := B.notSynchronized
  have hS : va_S (gA z0) s.heap s.heap [] := va_S.rf
  have hl := lv_entry ([.int x0]) (n := 1) (Nat.le_of_ble_eq_true rfl)
  rw [lg_entry_eq]
  generalize (lg_sl ([.int x0]) ++ List.replicate (1 - (lg_sl ([.int x0])).length) Slot.unset).toArray = ls at hl ⊢
  have hl : lv_has ls 1 [(0, .int x0)] := hl
  clear hB0
  unfold sX6_isNoun at hs
  refine lv_iload_n hx hb dX6_isNoun_0 rfl (lv_at hl 0 rfl) ?_
  refine lv_bipush (v := 6) hx hb dX6_isNoun_1 (by decide) ?_
  refine lv_icmp_ge (tgt := 10) hx hb dX6_isNoun_3 (by decide) (fun hc => ?_) (fun hc => ?_)
  · have hs := g_t hs hc
    refine lv_iconst (v := 0) hx hb dX6_isNoun_10 (by decide) ?_
    exact gRet_z hx hb hr hlocks rfl hK hP hS ⟨g_some hs, rfl⟩ dX6_isNoun_11
  · have hs := g_f hs hc
    refine lv_iconst (v := 1) hx hb dX6_isNoun_6 (by decide) ?_
    refine lv_goto (tgt := 11) hx hb dX6_isNoun_7 (by decide) ?_
    exact gRet_z hx hb hr hlocks rfl hK hP hS ⟨g_some hs, rfl⟩ dX6_isNoun_11
set_option maxHeartbeats 4000000 in
set_option maxRecDepth 100000 in
theorem cX6_isAdjective_c (l : Launch) (D : va_G) (cy : Nat → ClassId) (ad : Nat → Nat) (tL z0 : Nat) (hI : gI z0 ad) (v : gV) (u : Int64) (x0 : Int32) (r0 : Int32) (hs : sX6_isAdjective x0 = some r0) : Met l yX6_isAdjective wsX6_isAdjective ({ frames := 1, cells := 0, slots := 0, locals := 22 } : Room) (gPc D cy ad tL z0 v u [.int x0]) (gQi D cy ad tL z0 v u r0) 0 0 (gA z0) := by
  refine Met.ofW (cc := cX6_isAdjective) (maxL := 1) (ret := (some .boolean)) (by decide) rfl ?_
  intro p e s m args below meth c s₁ B hml hv
  obtain ⟨rfl, hB0⟩ := hv
  have hP : va_P D vwCl (gW cy ad v u) s.heap := hB0.1
  have hK : gK D cy tL z0 s s.heap := hB0.2
  have hx := B.exec
  have hb := B.bytes
  have hr := B.returns
  have hts := atoms_spec (ws := wsX6_isAdjective) B.pre
  have hown : s.vm.findClass RX6 = some m.cls := findClass_of_methodNamed B.named
  have hlocks := B.notSynchronized
  have hS : va_S (gA z0) s.heap s.heap [] := va_S.rf
  have hl := lv_entry ([.int x0]) (n := 1) (Nat.le_of_ble_eq_true rfl)
  rw [lg_entry_eq]
  generalize (lg_sl ([.int x0]) ++ List.replicate (1 - (lg_sl ([.int x0])).length) Slot.unset).toArray = ls at hl ⊢
  have hl : lv_has ls 1 [(0, .int x0)] := hl
  clear hB0
  unfold sX6_isAdjective at hs
  refine lv_iload_n hx hb dX6_isAdjective_0 rfl (lv_at hl 0 rfl) ?_
  refine lv_bipush (v := 6) hx hb dX6_isAdjective_1 (by decide) ?_
  refine lv_bipush (v := 9) hx hb dX6_isAdjective_3 (by decide) ?_
  refine g_bind hs (fun q_1 hq_1 hs => ?_)
  refine gCS_i (As := [.int x0, .int 6, .int 9]) (rest := []) ⟨hx, hb, hml, hown, hts⟩ (cX6_in_c l D cy ad tL z0 hI v u x0 6 9 q_1 hq_1) (va_cwS 3 hts gX6_isAdjective_X6_in rfl rfl rfl (by decide +kernel) ⟨Nat.le_of_ble_eq_true rfl, Nat.le_of_ble_eq_true rfl⟩) hK hP hS hl.1 rfl rfl (Nat.le_of_ble_eq_true rfl) dX6_isAdjective_5 ⟨Nat.zero_le _, Nat.zero_le _⟩ (fun H locs hP hS => ?_)
  refine g_chk hs (fun hc hs => ?_)
  exact gRet_z hx hb hr hlocks (g_nz hc) hK hP hS ⟨g_some hs, rfl⟩ dX6_isAdjective_8
set_option maxHeartbeats 4000000 in
set_option maxRecDepth 100000 in
theorem cX6_within_c (l : Launch) (D : va_G) (cy : Nat → ClassId) (ad : Nat → Nat) (tL z0 : Nat) (hI : gI z0 ad) (v : gV) (u : Int64) (x0 : Int32) (x1 : Int32) (x2 : Int32) (x3 : Int32) (r0 : Int32) (hs : sX6_within x0 x1 x2 x3 = some r0) : Met l yX6_within wsX6_within ({ frames := 2, cells := 0, slots := 0, locals := 42 } : Room) (gPc D cy ad tL z0 v u [.int x0, .int x1, .int x2, .int x3]) (gQi D cy ad tL z0 v u r0) 0 0 (gA z0) := by
  refine Met.ofW (cc := cX6_within) (maxL := 4) (ret := (some .int)) (by decide) rfl ?_
  intro p e s m args below meth c s₁ B hml hv
  obtain ⟨rfl, hB0⟩ := hv
  have hP : va_P D vwCl (gW cy ad v u) s.heap := hB0.1
  have hK : gK D cy tL z0 s s.heap := hB0.2
  have hx := B.exec
  have hb := B.bytes
  have hr := B.returns
  have hts := atoms_spec (ws := wsX6_within) B.pre
  have hown : s.vm.findClass RX6 = some m.cls := findClass_of_methodNamed B.named
  have hlocks := B.notSynchronized
  have hS : va_S (gA z0) s.heap s.heap [] := va_S.rf
  have hl := lv_entry ([.int x0, .int x1, .int x2, .int x3]) (n := 4) (Nat.le_of_ble_eq_true rfl)
  rw [lg_entry_eq]
  generalize (lg_sl ([.int x0, .int x1, .int x2, .int x3]) ++ List.replicate (4 - (lg_sl ([.int x0, .int x1, .int x2, .int x3])).length) Slot.unset).toArray = ls at hl ⊢
  have hl : lv_has ls 4 [(0, .int x0), (1, .int x1), (2, .int x2), (3, .int x3)] := hl
  clear hB0
  unfold sX6_within at hs
  refine lv_iload_n hx hb dX6_within_0 rfl (lv_at hl 0 rfl) ?_
  refine lv_bipush (v := 21) hx hb dX6_within_1 (by decide) ?_
  refine lv_icmp_ne (tgt := 10) hx hb dX6_within_3 (by decide) (fun hc => ?_) (fun hc => ?_)
  · have hs := g_f hs hc
    refine lv_iload_n hx hb dX6_within_10 rfl (lv_at hl 0 rfl) ?_
    refine g_bind hs (fun q_1 hq_1 hs => ?_)
    refine gCS_i (As := [.int x0]) (rest := []) ⟨hx, hb, hml, hown, hts⟩ (cX6_isAdjective_c l D cy ad tL z0 hI v u x0 q_1 hq_1) (va_cwS 1 hts gX6_within_X6_isAdjective rfl rfl rfl (by decide +kernel) ⟨Nat.le_of_ble_eq_true rfl, Nat.le_of_ble_eq_true rfl⟩) hK hP hS hl.1 rfl rfl (Nat.le_of_ble_eq_true rfl) dX6_within_11 ⟨Nat.zero_le _, Nat.zero_le _⟩ (fun H locs hP hS => ?_)
    refine lv_if_eq (tgt := 21) hx hb dX6_within_14 (by decide) (fun hc => ?_) (fun hc => ?_)
    · have hs := g_t hs hc
      refine lv_iload_n hx hb dX6_within_21 rfl (lv_at hl 0 rfl) ?_
      refine g_bind hs (fun q_2 hq_2 hs => ?_)
      refine gCS_i (As := [.int x0]) (rest := []) ⟨hx, hb, hml, hown, hts⟩ (cX6_isNoun_c l D cy ad tL z0 hI v u x0 q_2 hq_2) (va_cwS 1 hts gX6_within_X6_isNoun rfl rfl rfl (by decide +kernel) ⟨Nat.le_of_ble_eq_true rfl, Nat.le_of_ble_eq_true rfl⟩) hK hP hS hl.1 rfl rfl (Nat.le_of_ble_eq_true rfl) dX6_within_22 ⟨Nat.zero_le _, Nat.zero_le _⟩ (fun H locs hP hS => ?_)
      refine lv_if_eq (tgt := 32) hx hb dX6_within_25 (by decide) (fun hc => ?_) (fun hc => ?_)
      · have hs := g_t hs hc
        refine lv_iconst (v := (-1)) hx hb dX6_within_32 (by decide) ?_
        exact gRet_i hx hb hr hlocks hK hP hS ⟨g_some hs, rfl⟩ dX6_within_33
      · have hs := g_f hs hc
        refine lv_iload_n hx hb dX6_within_28 rfl (lv_at hl 3 rfl) ?_
        refine lv_goto (tgt := 33) hx hb dX6_within_29 (by decide) ?_
        exact gRet_i hx hb hr hlocks hK hP hS ⟨g_some hs, rfl⟩ dX6_within_33
    · have hs := g_f hs hc
      refine lv_iload_n hx hb dX6_within_17 rfl (lv_at hl 2 rfl) ?_
      refine lv_goto (tgt := 33) hx hb dX6_within_18 (by decide) ?_
      exact gRet_i hx hb hr hlocks hK hP hS ⟨g_some hs, rfl⟩ dX6_within_33
  · have hs := g_t hs hc
    refine lv_iload_n hx hb dX6_within_6 rfl (lv_at hl 1 rfl) ?_
    refine lv_goto (tgt := 33) hx hb dX6_within_7 (by decide) ?_
    exact gRet_i hx hb hr hlocks hK hP hS ⟨g_some hs, rfl⟩ dX6_within_33
set_option maxHeartbeats 4000000 in
set_option maxRecDepth 100000 in
theorem cX6_next_c (l : Launch) (D : va_G) (cy : Nat → ClassId) (ad : Nat → Nat) (tL z0 : Nat) (hI : gI z0 ad) (v : gV) (u : Int64) (x1 : Int32) (x2 : Int32) (x3 : Int32) (r0 : Int32) (hs : sX6_next v x1 x2 x3 = some r0) : Met l yX6_next wsX6_next ({ frames := 3, cells := 0, slots := 0, locals := 65 } : Room) (gPc D cy ad tL z0 v u [.ref (ad 81), .int x1, .int x2, .int x3]) (gQi D cy ad tL z0 v u r0) 0 0 (gA z0) := by
  refine Met.ofW (cc := cX6_next) (maxL := 4) (ret := (some .int)) (by decide) rfl ?_
  intro p e s m args below meth c s₁ B hml hv
  obtain ⟨rfl, hB0⟩ := hv
  have hP : va_P D vwCl (gW cy ad v u) s.heap := hB0.1
  have hK : gK D cy tL z0 s s.heap := hB0.2
  have hx := B.exec
  have hb := B.bytes
  have hr := B.returns
  have hts := atoms_spec (ws := wsX6_next) B.pre
  have hown : s.vm.findClass RX6 = some m.cls := findClass_of_methodNamed B.named
  have hlocks := B.notSynchronized
  have hS : va_S (gA z0) s.heap s.heap [] := va_S.rf
  have hl := lv_entry ([.ref (ad 81), .int x1, .int x2, .int x3]) (n := 4) (Nat.le_of_ble_eq_true rfl)
  rw [lg_entry_eq]
  generalize (lg_sl ([.ref (ad 81), .int x1, .int x2, .int x3]) ++ List.replicate (4 - (lg_sl ([.ref (ad 81), .int x1, .int x2, .int x3])).length) Slot.unset).toArray = ls at hl ⊢
  have hl : lv_has ls 4 [(0, .ref (ad 81)), (1, .int x1), (2, .int x2), (3, .int x3)] := hl
  have iX6 := (show ∀ w ∈ u_ws RX6 TX6 17, w ∈ wsX6_next by decide +kernel)
  have f16 := hts (.fieldLink RX6 16 "AdventureParserModel" "s" "[I") (by decide +kernel)
  clear hB0
  unfold sX6_next at hs
  refine lv_iload_n hx hb dX6_next_0 rfl (lv_at hl 1 rfl) ?_
  by_cases hc1_0 : x1 = 0
  · have hs := g_t hs hc1_0
    refine lv_tableIn (off := 71) (tgt := 72) hx hb dX6_next_1 (by rw [hc1_0]; decide) (by rw [hc1_0]; decide) (by rw [hc1_0]; rfl) (by decide) ?_
    refine lv_iload_n hx hb dX6_next_72 rfl (lv_at hl 2 rfl) ?_
    refine lv_bipush (v := 10) hx hb dX6_next_73 (by decide) ?_
    refine lv_bipush (v := 14) hx hb dX6_next_75 (by decide) ?_
    refine g_bind hs (fun q_1 hq_1 hs => ?_)
    refine gCS_i (As := [.int x2, .int 10, .int 14]) (rest := []) ⟨hx, hb, hml, hown, hts⟩ (cX6_in_c l D cy ad tL z0 hI v u x2 10 14 q_1 hq_1) (va_cwS 3 hts gX6_next_X6_in rfl rfl rfl (by decide +kernel) ⟨Nat.le_of_ble_eq_true rfl, Nat.le_of_ble_eq_true rfl⟩) hK hP hS hl.1 rfl rfl (Nat.le_of_ble_eq_true rfl) dX6_next_77 ⟨Nat.zero_le _, Nat.zero_le _⟩ (fun H locs hP hS => ?_)
    refine lv_if_eq (tgt := 87) hx hb dX6_next_80 (by decide) (fun hc => ?_) (fun hc => ?_)
    · have hs := g_t hs hc
      refine lv_iload_n hx hb dX6_next_87 rfl (lv_at hl 2 rfl) ?_
      refine lv_bipush (v := 15) hx hb dX6_next_88 (by decide) ?_
      refine lv_bipush (v := 16) hx hb dX6_next_90 (by decide) ?_
      refine g_bind hs (fun q_2 hq_2 hs => ?_)
      refine gCS_i (As := [.int x2, .int 15, .int 16]) (rest := []) ⟨hx, hb, hml, hown, hts⟩ (cX6_in_c l D cy ad tL z0 hI v u x2 15 16 q_2 hq_2) (va_cwS 3 hts gX6_next_X6_in rfl rfl rfl (by decide +kernel) ⟨Nat.le_of_ble_eq_true rfl, Nat.le_of_ble_eq_true rfl⟩) hK hP hS hl.1 rfl rfl (Nat.le_of_ble_eq_true rfl) dX6_next_92 ⟨Nat.zero_le _, Nat.zero_le _⟩ (fun H locs hP hS => ?_)
      refine lv_if_eq (tgt := 103) hx hb dX6_next_95 (by decide) (fun hc => ?_) (fun hc => ?_)
      · have hs := g_t hs hc
        refine lv_aload_n hx hb dX6_next_103 rfl (lv_at hl 0 rfl) ?_
        refine va_get (D := D) (ci := 6) (v := .ref (ad 84)) (C := RX6) (T := TX6) (N := 17) hx hb hts iX6 hown hK.1 hP 81 (gW_6 kd81) rfl 2 (by decide) f16 (fun _ h9 => h9) rfl dX6_next_104 ?_
        refine lv_bipush (v := 55) hx hb dX6_next_107 (by decide) ?_
        refine va_iald (i := 55) hx hb hK.1 hP 84 0 (gW_16 kd84) rfl (by unfold vp_in; decide) dX6_next_109 ?_
        refine lv_if_ne (tgt := 117) hx hb dX6_next_110 (by decide) (fun hc => ?_) (fun hc => ?_)
        · have hs := g_f hs hc
          refine lv_iload_n hx hb dX6_next_117 rfl (lv_at hl 2 rfl) ?_
          refine lv_bipush (v := 21) hx hb dX6_next_118 (by decide) ?_
          refine lv_icmp_ne (tgt := 128) hx hb dX6_next_120 (by decide) (fun hc => ?_) (fun hc => ?_)
          · have hs := g_f hs hc
            refine lv_iload_n hx hb dX6_next_128 rfl (lv_at hl 2 rfl) ?_
            refine g_bind hs (fun q_3 hq_3 hs => ?_)
            refine gCS_i (As := [.int x2]) (rest := []) ⟨hx, hb, hml, hown, hts⟩ (cX6_isAdjective_c l D cy ad tL z0 hI v u x2 q_3 hq_3) (va_cwS 1 hts gX6_next_X6_isAdjective rfl rfl rfl (by decide +kernel) ⟨Nat.le_of_ble_eq_true rfl, Nat.le_of_ble_eq_true rfl⟩) hK hP hS hl.1 rfl rfl (Nat.le_of_ble_eq_true rfl) dX6_next_129 ⟨Nat.zero_le _, Nat.zero_le _⟩ (fun H locs hP hS => ?_)
            refine lv_if_eq (tgt := 140) hx hb dX6_next_132 (by decide) (fun hc => ?_) (fun hc => ?_)
            · have hs := g_t hs hc
              refine lv_iconst (v := (-1)) hx hb dX6_next_140 (by decide) ?_
              exact gRet_i hx hb hr hlocks hK hP hS ⟨g_some hs, rfl⟩ dX6_next_141
            · have hs := g_f hs hc
              refine lv_bipush (v := 13) hx hb dX6_next_135 (by decide) ?_
              refine lv_goto (tgt := 141) hx hb dX6_next_137 (by decide) ?_
              exact gRet_i hx hb hr hlocks hK hP hS ⟨g_some hs, rfl⟩ dX6_next_141
          · have hs := g_t hs hc
            refine lv_bipush (v := 12) hx hb dX6_next_123 (by decide) ?_
            refine lv_goto (tgt := 141) hx hb dX6_next_125 (by decide) ?_
            exact gRet_i hx hb hr hlocks hK hP hS ⟨g_some hs, rfl⟩ dX6_next_141
        · have hs := g_t hs hc
          refine lv_iconst (v := (-1)) hx hb dX6_next_113 (by decide) ?_
          refine lv_goto (tgt := 141) hx hb dX6_next_114 (by decide) ?_
          exact gRet_i hx hb hr hlocks hK hP hS ⟨g_some hs, rfl⟩ dX6_next_141
      · have hs := g_f hs hc
        refine lv_bipush (v := 11) hx hb dX6_next_98 (by decide) ?_
        refine lv_goto (tgt := 141) hx hb dX6_next_100 (by decide) ?_
        exact gRet_i hx hb hr hlocks hK hP hS ⟨g_some hs, rfl⟩ dX6_next_141
    · have hs := g_f hs hc
      refine lv_iconst (v := 1) hx hb dX6_next_83 (by decide) ?_
      refine lv_goto (tgt := 141) hx hb dX6_next_84 (by decide) ?_
      exact gRet_i hx hb hr hlocks hK hP hS ⟨g_some hs, rfl⟩ dX6_next_141
  have hs := g_f hs hc1_0
  by_cases hc1_1 : x1 = 1
  · have hs := g_t hs hc1_1
    refine lv_tableIn (off := 141) (tgt := 142) hx hb dX6_next_1 (by rw [hc1_1]; decide) (by rw [hc1_1]; decide) (by rw [hc1_1]; rfl) (by decide) ?_
    refine lv_iload_n hx hb dX6_next_142 rfl (lv_at hl 2 rfl) ?_
    refine lv_bipush (v := 17) hx hb dX6_next_143 (by decide) ?_
    refine lv_icmp_ne (tgt := 152) hx hb dX6_next_145 (by decide) (fun hc => ?_) (fun hc => ?_)
    · have hs := g_f hs hc
      refine lv_iload_n hx hb dX6_next_152 rfl (lv_at hl 2 rfl) ?_
      refine lv_bipush (v := 22) hx hb dX6_next_153 (by decide) ?_
      refine lv_icmp_eq (tgt := 164) hx hb dX6_next_155 (by decide) (fun hc => ?_) (fun hc => ?_)
      · have hs := g_t hs hc
        refine lv_iconst (v := 3) hx hb dX6_next_164 (by decide) ?_
        refine lv_goto (tgt := 176) hx hb dX6_next_165 (by decide) ?_
        exact gRet_i hx hb hr hlocks hK hP hS ⟨g_some hs, rfl⟩ dX6_next_176
      · have hs := g_f hs hc
        refine lv_iload_n hx hb dX6_next_158 rfl (lv_at hl 2 rfl) ?_
        refine lv_bipush (v := 23) hx hb dX6_next_159 (by decide) ?_
        refine lv_icmp_ne (tgt := 168) hx hb dX6_next_161 (by decide) (fun hc => ?_) (fun hc => ?_)
        · have hs := g_f hs hc
          refine lv_iload_n hx hb dX6_next_168 rfl (lv_at hl 2 rfl) ?_
          refine lv_iconst (v := 4) hx hb dX6_next_169 (by decide) ?_
          refine lv_iconst (v := 5) hx hb dX6_next_170 (by decide) ?_
          refine lv_bipush (v := 6) hx hb dX6_next_171 (by decide) ?_
          refine g_bind hs (fun q_4 hq_4 hs => ?_)
          refine gCS_i (As := [.int x2, .int 4, .int 5, .int 6]) (rest := []) ⟨hx, hb, hml, hown, hts⟩ (cX6_within_c l D cy ad tL z0 hI v u x2 4 5 6 q_4 hq_4) (va_cwS 4 hts gX6_next_X6_within rfl rfl rfl (by decide +kernel) ⟨Nat.le_of_ble_eq_true rfl, Nat.le_of_ble_eq_true rfl⟩) hK hP hS hl.1 rfl rfl (Nat.le_of_ble_eq_true rfl) dX6_next_173 ⟨Nat.zero_le _, Nat.zero_le _⟩ (fun H locs hP hS => ?_)
          exact gRet_i hx hb hr hlocks hK hP hS ⟨g_some hs, rfl⟩ dX6_next_176
        · have hs := g_t hs hc
          refine lv_iconst (v := 3) hx hb dX6_next_164 (by decide) ?_
          refine lv_goto (tgt := 176) hx hb dX6_next_165 (by decide) ?_
          exact gRet_i hx hb hr hlocks hK hP hS ⟨g_some hs, rfl⟩ dX6_next_176
    · have hs := g_t hs hc
      refine lv_iconst (v := 2) hx hb dX6_next_148 (by decide) ?_
      refine lv_goto (tgt := 176) hx hb dX6_next_149 (by decide) ?_
      exact gRet_i hx hb hr hlocks hK hP hS ⟨g_some hs, rfl⟩ dX6_next_176
  have hs := g_f hs hc1_1
  by_cases hc1_2 : x1 = 2
  · have hs := g_t hs hc1_2
    refine lv_tableIn (off := 176) (tgt := 177) hx hb dX6_next_1 (by rw [hc1_2]; decide) (by rw [hc1_2]; decide) (by rw [hc1_2]; rfl) (by decide) ?_
    refine lv_iload_n hx hb dX6_next_177 rfl (lv_at hl 2 rfl) ?_
    refine lv_bipush (v := 18) hx hb dX6_next_178 (by decide) ?_
    refine lv_icmp_ne (tgt := 188) hx hb dX6_next_180 (by decide) (fun hc => ?_) (fun hc => ?_)
    · have hs := g_f hs hc
      refine lv_iload_n hx hb dX6_next_188 rfl (lv_at hl 3 rfl) ?_
      refine lv_if_eq (tgt := 203) hx hb dX6_next_189 (by decide) (fun hc => ?_) (fun hc => ?_)
      · have hs := g_t hs hc
        refine lv_iconst (v := (-1)) hx hb dX6_next_203 (by decide) ?_
        exact gRet_i hx hb hr hlocks hK hP hS ⟨g_some hs, rfl⟩ dX6_next_204
      · have hs := g_f hs hc
        refine lv_iload_n hx hb dX6_next_192 rfl (lv_at hl 2 rfl) ?_
        refine lv_bipush (v := 20) hx hb dX6_next_193 (by decide) ?_
        refine lv_icmp_ne (tgt := 203) hx hb dX6_next_195 (by decide) (fun hc => ?_) (fun hc => ?_)
        · have hs := g_f hs hc
          refine lv_iconst (v := (-1)) hx hb dX6_next_203 (by decide) ?_
          exact gRet_i hx hb hr hlocks hK hP hS ⟨g_some hs, rfl⟩ dX6_next_204
        · have hs := g_t hs hc
          refine lv_bipush (v := 8) hx hb dX6_next_198 (by decide) ?_
          refine lv_goto (tgt := 204) hx hb dX6_next_200 (by decide) ?_
          exact gRet_i hx hb hr hlocks hK hP hS ⟨g_some hs, rfl⟩ dX6_next_204
    · have hs := g_t hs hc
      refine lv_bipush (v := 7) hx hb dX6_next_183 (by decide) ?_
      refine lv_goto (tgt := 204) hx hb dX6_next_185 (by decide) ?_
      exact gRet_i hx hb hr hlocks hK hP hS ⟨g_some hs, rfl⟩ dX6_next_204
  have hs := g_f hs hc1_2
  by_cases hc1_3 : x1 = 3
  · have hs := g_t hs hc1_3
    refine lv_tableIn (off := 204) (tgt := 205) hx hb dX6_next_1 (by rw [hc1_3]; decide) (by rw [hc1_3]; decide) (by rw [hc1_3]; rfl) (by decide) ?_
    refine lv_iload_n hx hb dX6_next_205 rfl (lv_at hl 3 rfl) ?_
    refine lv_if_eq (tgt := 220) hx hb dX6_next_206 (by decide) (fun hc => ?_) (fun hc => ?_)
    · have hs := g_t hs hc
      refine lv_iconst (v := (-1)) hx hb dX6_next_220 (by decide) ?_
      exact gRet_i hx hb hr hlocks hK hP hS ⟨g_some hs, rfl⟩ dX6_next_221
    · have hs := g_f hs hc
      refine lv_iload_n hx hb dX6_next_209 rfl (lv_at hl 2 rfl) ?_
      refine lv_bipush (v := 20) hx hb dX6_next_210 (by decide) ?_
      refine lv_icmp_ne (tgt := 220) hx hb dX6_next_212 (by decide) (fun hc => ?_) (fun hc => ?_)
      · have hs := g_f hs hc
        refine lv_iconst (v := (-1)) hx hb dX6_next_220 (by decide) ?_
        exact gRet_i hx hb hr hlocks hK hP hS ⟨g_some hs, rfl⟩ dX6_next_221
      · have hs := g_t hs hc
        refine lv_bipush (v := 8) hx hb dX6_next_215 (by decide) ?_
        refine lv_goto (tgt := 221) hx hb dX6_next_217 (by decide) ?_
        exact gRet_i hx hb hr hlocks hK hP hS ⟨g_some hs, rfl⟩ dX6_next_221
  have hs := g_f hs hc1_3
  by_cases hc1_4 : x1 = 4
  · have hs := g_t hs hc1_4
    refine lv_tableIn (off := 221) (tgt := 222) hx hb dX6_next_1 (by rw [hc1_4]; decide) (by rw [hc1_4]; decide) (by rw [hc1_4]; rfl) (by decide) ?_
    refine lv_iload_n hx hb dX6_next_222 rfl (lv_at hl 2 rfl) ?_
    refine lv_bipush (v := 21) hx hb dX6_next_223 (by decide) ?_
    refine lv_icmp_ne (tgt := 232) hx hb dX6_next_225 (by decide) (fun hc => ?_) (fun hc => ?_)
    · have hs := g_f hs hc
      refine lv_iload_n hx hb dX6_next_232 rfl (lv_at hl 2 rfl) ?_
      refine lv_iconst (v := (-1)) hx hb dX6_next_233 (by decide) ?_
      refine lv_iconst (v := 5) hx hb dX6_next_234 (by decide) ?_
      refine lv_bipush (v := 6) hx hb dX6_next_235 (by decide) ?_
      refine g_bind hs (fun q_5 hq_5 hs => ?_)
      refine gCS_i (As := [.int x2, .int ((-1)), .int 5, .int 6]) (rest := []) ⟨hx, hb, hml, hown, hts⟩ (cX6_within_c l D cy ad tL z0 hI v u x2 ((-1)) 5 6 q_5 hq_5) (va_cwS 4 hts gX6_next_X6_within rfl rfl rfl (by decide +kernel) ⟨Nat.le_of_ble_eq_true rfl, Nat.le_of_ble_eq_true rfl⟩) hK hP hS hl.1 rfl rfl (Nat.le_of_ble_eq_true rfl) dX6_next_237 ⟨Nat.zero_le _, Nat.zero_le _⟩ (fun H locs hP hS => ?_)
      exact gRet_i hx hb hr hlocks hK hP hS ⟨g_some hs, rfl⟩ dX6_next_240
    · have hs := g_t hs hc
      refine lv_iconst (v := (-1)) hx hb dX6_next_228 (by decide) ?_
      refine lv_goto (tgt := 240) hx hb dX6_next_229 (by decide) ?_
      exact gRet_i hx hb hr hlocks hK hP hS ⟨g_some hs, rfl⟩ dX6_next_240
  have hs := g_f hs hc1_4
  by_cases hc1_5 : x1 = 5
  · have hs := g_t hs hc1_5
    refine lv_tableIn (off := 240) (tgt := 241) hx hb dX6_next_1 (by rw [hc1_5]; decide) (by rw [hc1_5]; decide) (by rw [hc1_5]; rfl) (by decide) ?_
    refine lv_iload_n hx hb dX6_next_241 rfl (lv_at hl 2 rfl) ?_
    refine g_bind hs (fun q_6 hq_6 hs => ?_)
    refine gCS_i (As := [.int x2]) (rest := []) ⟨hx, hb, hml, hown, hts⟩ (cX6_isNoun_c l D cy ad tL z0 hI v u x2 q_6 hq_6) (va_cwS 1 hts gX6_next_X6_isNoun rfl rfl rfl (by decide +kernel) ⟨Nat.le_of_ble_eq_true rfl, Nat.le_of_ble_eq_true rfl⟩) hK hP hS hl.1 rfl rfl (Nat.le_of_ble_eq_true rfl) dX6_next_242 ⟨Nat.zero_le _, Nat.zero_le _⟩ (fun H locs hP hS => ?_)
    refine lv_if_eq (tgt := 253) hx hb dX6_next_245 (by decide) (fun hc => ?_) (fun hc => ?_)
    · have hs := g_t hs hc
      refine lv_iconst (v := (-1)) hx hb dX6_next_253 (by decide) ?_
      exact gRet_i hx hb hr hlocks hK hP hS ⟨g_some hs, rfl⟩ dX6_next_254
    · have hs := g_f hs hc
      refine lv_bipush (v := 6) hx hb dX6_next_248 (by decide) ?_
      refine lv_goto (tgt := 254) hx hb dX6_next_250 (by decide) ?_
      exact gRet_i hx hb hr hlocks hK hP hS ⟨g_some hs, rfl⟩ dX6_next_254
  have hs := g_f hs hc1_5
  by_cases hc1_6 : x1 = 6
  · have hs := g_t hs hc1_6
    refine lv_tableIn (off := 254) (tgt := 255) hx hb dX6_next_1 (by rw [hc1_6]; decide) (by rw [hc1_6]; decide) (by rw [hc1_6]; rfl) (by decide) ?_
    refine lv_iload_n hx hb dX6_next_255 rfl (lv_at hl 2 rfl) ?_
    refine lv_bipush (v := 19) hx hb dX6_next_256 (by decide) ?_
    refine lv_icmp_ne (tgt := 266) hx hb dX6_next_258 (by decide) (fun hc => ?_) (fun hc => ?_)
    · have hs := g_f hs hc
      refine lv_iload_n hx hb dX6_next_266 rfl (lv_at hl 3 rfl) ?_
      refine lv_if_eq (tgt := 281) hx hb dX6_next_267 (by decide) (fun hc => ?_) (fun hc => ?_)
      · have hs := g_t hs hc
        refine lv_iconst (v := (-1)) hx hb dX6_next_281 (by decide) ?_
        exact gRet_i hx hb hr hlocks hK hP hS ⟨g_some hs, rfl⟩ dX6_next_282
      · have hs := g_f hs hc
        refine lv_iload_n hx hb dX6_next_270 rfl (lv_at hl 2 rfl) ?_
        refine lv_bipush (v := 20) hx hb dX6_next_271 (by decide) ?_
        refine lv_icmp_ne (tgt := 281) hx hb dX6_next_273 (by decide) (fun hc => ?_) (fun hc => ?_)
        · have hs := g_f hs hc
          refine lv_iconst (v := (-1)) hx hb dX6_next_281 (by decide) ?_
          exact gRet_i hx hb hr hlocks hK hP hS ⟨g_some hs, rfl⟩ dX6_next_282
        · have hs := g_t hs hc
          refine lv_bipush (v := 8) hx hb dX6_next_276 (by decide) ?_
          refine lv_goto (tgt := 282) hx hb dX6_next_278 (by decide) ?_
          exact gRet_i hx hb hr hlocks hK hP hS ⟨g_some hs, rfl⟩ dX6_next_282
    · have hs := g_t hs hc
      refine lv_bipush (v := 7) hx hb dX6_next_261 (by decide) ?_
      refine lv_goto (tgt := 282) hx hb dX6_next_263 (by decide) ?_
      exact gRet_i hx hb hr hlocks hK hP hS ⟨g_some hs, rfl⟩ dX6_next_282
  have hs := g_f hs hc1_6
  by_cases hc1_7 : x1 = 7
  · have hs := g_t hs hc1_7
    refine lv_tableIn (off := 282) (tgt := 283) hx hb dX6_next_1 (by rw [hc1_7]; decide) (by rw [hc1_7]; decide) (by rw [hc1_7]; rfl) (by decide) ?_
    refine lv_iload_n hx hb dX6_next_283 rfl (lv_at hl 2 rfl) ?_
    refine lv_iconst (v := 4) hx hb dX6_next_284 (by decide) ?_
    refine lv_iconst (v := 5) hx hb dX6_next_285 (by decide) ?_
    refine lv_bipush (v := 6) hx hb dX6_next_286 (by decide) ?_
    refine g_bind hs (fun q_7 hq_7 hs => ?_)
    refine gCS_i (As := [.int x2, .int 4, .int 5, .int 6]) (rest := []) ⟨hx, hb, hml, hown, hts⟩ (cX6_within_c l D cy ad tL z0 hI v u x2 4 5 6 q_7 hq_7) (va_cwS 4 hts gX6_next_X6_within rfl rfl rfl (by decide +kernel) ⟨Nat.le_of_ble_eq_true rfl, Nat.le_of_ble_eq_true rfl⟩) hK hP hS hl.1 rfl rfl (Nat.le_of_ble_eq_true rfl) dX6_next_288 ⟨Nat.zero_le _, Nat.zero_le _⟩ (fun H locs hP hS => ?_)
    exact gRet_i hx hb hr hlocks hK hP hS ⟨g_some hs, rfl⟩ dX6_next_291
  have hs := g_f hs hc1_7
  by_cases hc1_8 : x1 = 8
  · have hs := g_t hs hc1_8
    refine lv_tableIn (off := 291) (tgt := 292) hx hb dX6_next_1 (by rw [hc1_8]; decide) (by rw [hc1_8]; decide) (by rw [hc1_8]; rfl) (by decide) ?_
    refine lv_iload_n hx hb dX6_next_292 rfl (lv_at hl 2 rfl) ?_
    refine lv_bipush (v := 22) hx hb dX6_next_293 (by decide) ?_
    refine lv_icmp_ne (tgt := 303) hx hb dX6_next_295 (by decide) (fun hc => ?_) (fun hc => ?_)
    · have hs := g_f hs hc
      refine lv_iload_n hx hb dX6_next_303 rfl (lv_at hl 2 rfl) ?_
      refine lv_bipush (v := 9) hx hb dX6_next_304 (by decide) ?_
      refine lv_bipush (v := 10) hx hb dX6_next_306 (by decide) ?_
      refine lv_bipush (v := 11) hx hb dX6_next_308 (by decide) ?_
      refine g_bind hs (fun q_8 hq_8 hs => ?_)
      refine gCS_i (As := [.int x2, .int 9, .int 10, .int 11]) (rest := []) ⟨hx, hb, hml, hown, hts⟩ (cX6_within_c l D cy ad tL z0 hI v u x2 9 10 11 q_8 hq_8) (va_cwS 4 hts gX6_next_X6_within rfl rfl rfl (by decide +kernel) ⟨Nat.le_of_ble_eq_true rfl, Nat.le_of_ble_eq_true rfl⟩) hK hP hS hl.1 rfl rfl (Nat.le_of_ble_eq_true rfl) dX6_next_310 ⟨Nat.zero_le _, Nat.zero_le _⟩ (fun H locs hP hS => ?_)
      exact gRet_i hx hb hr hlocks hK hP hS ⟨g_some hs, rfl⟩ dX6_next_313
    · have hs := g_t hs hc
      refine lv_bipush (v := 11) hx hb dX6_next_298 (by decide) ?_
      refine lv_goto (tgt := 313) hx hb dX6_next_300 (by decide) ?_
      exact gRet_i hx hb hr hlocks hK hP hS ⟨g_some hs, rfl⟩ dX6_next_313
  have hs := g_f hs hc1_8
  by_cases hc1_9 : x1 = 9
  · have hs := g_t hs hc1_9
    refine lv_tableIn (off := 313) (tgt := 314) hx hb dX6_next_1 (by rw [hc1_9]; decide) (by rw [hc1_9]; decide) (by rw [hc1_9]; rfl) (by decide) ?_
    refine lv_iload_n hx hb dX6_next_314 rfl (lv_at hl 2 rfl) ?_
    refine lv_bipush (v := 21) hx hb dX6_next_315 (by decide) ?_
    refine lv_icmp_ne (tgt := 324) hx hb dX6_next_317 (by decide) (fun hc => ?_) (fun hc => ?_)
    · have hs := g_f hs hc
      refine lv_iload_n hx hb dX6_next_324 rfl (lv_at hl 2 rfl) ?_
      refine lv_iconst (v := (-1)) hx hb dX6_next_325 (by decide) ?_
      refine lv_bipush (v := 10) hx hb dX6_next_326 (by decide) ?_
      refine lv_bipush (v := 11) hx hb dX6_next_328 (by decide) ?_
      refine g_bind hs (fun q_9 hq_9 hs => ?_)
      refine gCS_i (As := [.int x2, .int ((-1)), .int 10, .int 11]) (rest := []) ⟨hx, hb, hml, hown, hts⟩ (cX6_within_c l D cy ad tL z0 hI v u x2 ((-1)) 10 11 q_9 hq_9) (va_cwS 4 hts gX6_next_X6_within rfl rfl rfl (by decide +kernel) ⟨Nat.le_of_ble_eq_true rfl, Nat.le_of_ble_eq_true rfl⟩) hK hP hS hl.1 rfl rfl (Nat.le_of_ble_eq_true rfl) dX6_next_330 ⟨Nat.zero_le _, Nat.zero_le _⟩ (fun H locs hP hS => ?_)
      exact gRet_i hx hb hr hlocks hK hP hS ⟨g_some hs, rfl⟩ dX6_next_333
    · have hs := g_t hs hc
      refine lv_iconst (v := (-1)) hx hb dX6_next_320 (by decide) ?_
      refine lv_goto (tgt := 333) hx hb dX6_next_321 (by decide) ?_
      exact gRet_i hx hb hr hlocks hK hP hS ⟨g_some hs, rfl⟩ dX6_next_333
  have hs := g_f hs hc1_9
  by_cases hc1_10 : x1 = 10
  · have hs := g_t hs hc1_10
    refine lv_tableIn (off := 333) (tgt := 334) hx hb dX6_next_1 (by rw [hc1_10]; decide) (by rw [hc1_10]; decide) (by rw [hc1_10]; rfl) (by decide) ?_
    refine lv_iload_n hx hb dX6_next_334 rfl (lv_at hl 2 rfl) ?_
    refine g_bind hs (fun q_10 hq_10 hs => ?_)
    refine gCS_i (As := [.int x2]) (rest := []) ⟨hx, hb, hml, hown, hts⟩ (cX6_isNoun_c l D cy ad tL z0 hI v u x2 q_10 hq_10) (va_cwS 1 hts gX6_next_X6_isNoun rfl rfl rfl (by decide +kernel) ⟨Nat.le_of_ble_eq_true rfl, Nat.le_of_ble_eq_true rfl⟩) hK hP hS hl.1 rfl rfl (Nat.le_of_ble_eq_true rfl) dX6_next_335 ⟨Nat.zero_le _, Nat.zero_le _⟩ (fun H locs hP hS => ?_)
    refine lv_if_eq (tgt := 346) hx hb dX6_next_338 (by decide) (fun hc => ?_) (fun hc => ?_)
    · have hs := g_t hs hc
      refine lv_iconst (v := (-1)) hx hb dX6_next_346 (by decide) ?_
      exact gRet_i hx hb hr hlocks hK hP hS ⟨g_some hs, rfl⟩ dX6_next_347
    · have hs := g_f hs hc
      refine lv_bipush (v := 11) hx hb dX6_next_341 (by decide) ?_
      refine lv_goto (tgt := 347) hx hb dX6_next_343 (by decide) ?_
      exact gRet_i hx hb hr hlocks hK hP hS ⟨g_some hs, rfl⟩ dX6_next_347
  have hs := g_f hs hc1_10
  by_cases hc1_11 : x1 = 11
  · have hs := g_t hs hc1_11
    refine lv_tableIn (off := 381) (tgt := 382) hx hb dX6_next_1 (by rw [hc1_11]; decide) (by rw [hc1_11]; decide) (by rw [hc1_11]; rfl) (by decide) ?_
    refine lv_iconst (v := (-1)) hx hb dX6_next_382 (by decide) ?_
    exact gRet_i hx hb hr hlocks hK hP hS ⟨g_some hs, rfl⟩ dX6_next_383
  have hs := g_f hs hc1_11
  by_cases hc1_12 : x1 = 12
  · have hs := g_t hs hc1_12
    refine lv_tableIn (off := 347) (tgt := 348) hx hb dX6_next_1 (by rw [hc1_12]; decide) (by rw [hc1_12]; decide) (by rw [hc1_12]; rfl) (by decide) ?_
    refine lv_iload_n hx hb dX6_next_348 rfl (lv_at hl 2 rfl) ?_
    refine g_bind hs (fun q_11 hq_11 hs => ?_)
    refine gCS_i (As := [.int x2]) (rest := []) ⟨hx, hb, hml, hown, hts⟩ (cX6_isAdjective_c l D cy ad tL z0 hI v u x2 q_11 hq_11) (va_cwS 1 hts gX6_next_X6_isAdjective rfl rfl rfl (by decide +kernel) ⟨Nat.le_of_ble_eq_true rfl, Nat.le_of_ble_eq_true rfl⟩) hK hP hS hl.1 rfl rfl (Nat.le_of_ble_eq_true rfl) dX6_next_349 ⟨Nat.zero_le _, Nat.zero_le _⟩ (fun H locs hP hS => ?_)
    refine lv_if_eq (tgt := 360) hx hb dX6_next_352 (by decide) (fun hc => ?_) (fun hc => ?_)
    · have hs := g_t hs hc
      refine lv_iconst (v := (-1)) hx hb dX6_next_360 (by decide) ?_
      exact gRet_i hx hb hr hlocks hK hP hS ⟨g_some hs, rfl⟩ dX6_next_361
    · have hs := g_f hs hc
      refine lv_bipush (v := 13) hx hb dX6_next_355 (by decide) ?_
      refine lv_goto (tgt := 361) hx hb dX6_next_357 (by decide) ?_
      exact gRet_i hx hb hr hlocks hK hP hS ⟨g_some hs, rfl⟩ dX6_next_361
  have hs := g_f hs hc1_12
  by_cases hc1_13 : x1 = 13
  · have hs := g_t hs hc1_13
    refine lv_tableIn (off := 361) (tgt := 362) hx hb dX6_next_1 (by rw [hc1_13]; decide) (by rw [hc1_13]; decide) (by rw [hc1_13]; rfl) (by decide) ?_
    refine lv_iload_n hx hb dX6_next_362 rfl (lv_at hl 2 rfl) ?_
    refine lv_bipush (v := 24) hx hb dX6_next_363 (by decide) ?_
    refine lv_icmp_eq (tgt := 375) hx hb dX6_next_365 (by decide) (fun hc => ?_) (fun hc => ?_)
    · have hs := g_t hs hc
      refine lv_bipush (v := 11) hx hb dX6_next_375 (by decide) ?_
      refine lv_goto (tgt := 381) hx hb dX6_next_377 (by decide) ?_
      exact gRet_i hx hb hr hlocks hK hP hS ⟨g_some hs, rfl⟩ dX6_next_381
    · have hs := g_f hs hc
      refine lv_iload_n hx hb dX6_next_368 rfl (lv_at hl 2 rfl) ?_
      refine g_bind hs (fun q_12 hq_12 hs => ?_)
      refine gCS_i (As := [.int x2]) (rest := []) ⟨hx, hb, hml, hown, hts⟩ (cX6_isNoun_c l D cy ad tL z0 hI v u x2 q_12 hq_12) (va_cwS 1 hts gX6_next_X6_isNoun rfl rfl rfl (by decide +kernel) ⟨Nat.le_of_ble_eq_true rfl, Nat.le_of_ble_eq_true rfl⟩) hK hP hS hl.1 rfl rfl (Nat.le_of_ble_eq_true rfl) dX6_next_369 ⟨Nat.zero_le _, Nat.zero_le _⟩ (fun H locs hP hS => ?_)
      refine lv_if_eq (tgt := 380) hx hb dX6_next_372 (by decide) (fun hc => ?_) (fun hc => ?_)
      · have hs := g_t hs hc
        refine lv_iconst (v := (-1)) hx hb dX6_next_380 (by decide) ?_
        exact gRet_i hx hb hr hlocks hK hP hS ⟨g_some hs, rfl⟩ dX6_next_381
      · have hs := g_f hs hc
        refine lv_bipush (v := 11) hx hb dX6_next_375 (by decide) ?_
        refine lv_goto (tgt := 381) hx hb dX6_next_377 (by decide) ?_
        exact gRet_i hx hb hr hlocks hK hP hS ⟨g_some hs, rfl⟩ dX6_next_381
  have hs := g_f hs hc1_13
  refine lv_tableOut (tgt := 382) hx hb dX6_next_1 (by have n0 := g_neI (i := 0) hc1_0 (by decide); have n1 := g_neI (i := 1) hc1_1 (by decide); have n2 := g_neI (i := 2) hc1_2 (by decide); have n3 := g_neI (i := 3) hc1_3 (by decide); have n4 := g_neI (i := 4) hc1_4 (by decide); have n5 := g_neI (i := 5) hc1_5 (by decide); have n6 := g_neI (i := 6) hc1_6 (by decide); have n7 := g_neI (i := 7) hc1_7 (by decide); have n8 := g_neI (i := 8) hc1_8 (by decide); have n9 := g_neI (i := 9) hc1_9 (by decide); have n10 := g_neI (i := 10) hc1_10 (by decide); have n11 := g_neI (i := 11) hc1_11 (by decide); have n12 := g_neI (i := 12) hc1_12 (by decide); have n13 := g_neI (i := 13) hc1_13 (by decide); omega) (by decide) ?_
  refine lv_iconst (v := (-1)) hx hb dX6_next_382 (by decide) ?_
  exact gRet_i hx hb hr hlocks hK hP hS ⟨g_some hs, rfl⟩ dX6_next_383
