set_option maxHeartbeats 4000000 in
set_option maxRecDepth 100000 in
theorem cX0_hasSpaceFor_c (l : Launch) (D : va_G) (cy : Nat → ClassId) (ad : Nat → Nat) (tL z0 : Nat) (hI : gI z0 ad) (v : gV) (u : Int64) (x1 : Int32) (r0 : Int32) (hs : sX0_hasSpaceFor v x1 = some r0) : Met l yX0_hasSpaceFor wsX0_hasSpaceFor ({ frames := 0, cells := 0, slots := 0, locals := 0 } : Room) (gPc D cy ad tL z0 v u [.ref (ad 1), .int x1]) (gQi D cy ad tL z0 v u r0) 0 0 (gA z0) := by
  refine Met.ofW (cc := cX0_hasSpaceFor) (maxL := 2) (ret := (some .boolean)) (by decide) rfl ?_
  intro p e s m args below meth c s₁ B hml hv
  obtain ⟨rfl, hB0⟩ := hv
  have hP : va_P D vwCl (gW cy ad v u) s.heap := hB0.1
  have hK : gK D cy tL z0 s s.heap := hB0.2
  have hx := B.exec
  have hb := B.bytes
  have hr := B.returns
  have hts := atoms_spec (ws := wsX0_hasSpaceFor) B.pre
  have hown : s.vm.findClass RX0 = some m.cls := findClass_of_methodNamed B.named
  have hlocks := B.notSynchronized
  have hS : va_S (gA z0) s.heap s.heap [] := va_S.rf
  have hl := lv_entry ([.ref (ad 1), .int x1]) (n := 2) (Nat.le_of_ble_eq_true rfl)
  rw [lg_entry_eq]
  generalize (lg_sl ([.ref (ad 1), .int x1]) ++ List.replicate (2 - (lg_sl ([.ref (ad 1), .int x1])).length) Slot.unset).toArray = ls at hl ⊢
  have hl : lv_has ls 2 [(0, .ref (ad 1)), (1, .int x1)] := hl
  have iX0 := (show ∀ w ∈ u_ws RX0 TX0 2, w ∈ wsX0_hasSpaceFor by decide +kernel)
  have f15 := hts (.fieldLink RX0 15 "AdventureParser$Buffer" "length" "I") (by decide +kernel)
  have f9 := hts (.fieldLink RX0 9 "AdventureParser$Buffer" "characters" "[C") (by decide +kernel)
  clear hB0
  unfold sX0_hasSpaceFor at hs
  refine lv_aload_n hx hb dX0_hasSpaceFor_0 rfl (lv_at hl 0 rfl) ?_
  refine va_get (D := D) (ci := 0) (v := .int (v 1 1)) (C := RX0) (T := TX0) (N := 2) hx hb hts iX0 hown hK.1 hP 1 (gW_0 kd1) rfl 1 (by decide) f15 (fun _ h9 => h9) rfl dX0_hasSpaceFor_1 ?_
  refine lv_iload_n hx hb dX0_hasSpaceFor_4 rfl (lv_at hl 1 rfl) ?_
  refine lv_iadd hx hb dX0_hasSpaceFor_5 ?_
  refine lv_aload_n hx hb dX0_hasSpaceFor_6 rfl (lv_at hl 0 rfl) ?_
  refine va_get (D := D) (ci := 0) (v := .ref (ad 2)) (C := RX0) (T := TX0) (N := 2) hx hb hts iX0 hown hK.1 hP 1 (gW_0 kd1) rfl 0 (by decide) f9 (fun _ h9 => h9) rfl dX0_hasSpaceFor_7 ?_
  refine va_alen (v := 60) hx hb hK.1 hP 2 1 (gW_10 kd2) rfl rfl dX0_hasSpaceFor_10 ?_
  refine lv_icmp_gt (tgt := 18) hx hb dX0_hasSpaceFor_11 (by decide) (fun hc => ?_) (fun hc => ?_)
  · have hs := g_t hs hc
    refine lv_iconst (v := 0) hx hb dX0_hasSpaceFor_18 (by decide) ?_
    exact gRet_z hx hb hr hlocks rfl hK hP hS ⟨g_some hs, rfl⟩ dX0_hasSpaceFor_19
  · have hs := g_f hs hc
    refine lv_iconst (v := 1) hx hb dX0_hasSpaceFor_14 (by decide) ?_
    refine lv_goto (tgt := 19) hx hb dX0_hasSpaceFor_15 (by decide) ?_
    exact gRet_z hx hb hr hlocks rfl hK hP hS ⟨g_some hs, rfl⟩ dX0_hasSpaceFor_19
set_option maxHeartbeats 4000000 in
set_option maxRecDepth 100000 in
theorem cX0_add_c (l : Launch) (D : va_G) (cy : Nat → ClassId) (ad : Nat → Nat) (tL z0 : Nat) (hI : gI z0 ad) (v : gV) (u : Int64) (x1 : Int32) (v1 : gV) (hs : sX0_add v x1 = some v1) : Met l yX0_add wsX0_add ({ frames := 0, cells := 0, slots := 0, locals := 0 } : Room) (gPc D cy ad tL z0 v u [.ref (ad 1), .int x1]) (gQv D cy ad tL z0 v1 u) 0 0 (gA z0) := by
  refine Met.ofW (cc := cX0_add) (maxL := 2) (ret := none) (by decide) rfl ?_
  intro p e s m args below meth c s₁ B hml hv
  obtain ⟨rfl, hB0⟩ := hv
  have hP : va_P D vwCl (gW cy ad v u) s.heap := hB0.1
  have hK : gK D cy tL z0 s s.heap := hB0.2
  have hx := B.exec
  have hb := B.bytes
  have hr := B.returns
  have hts := atoms_spec (ws := wsX0_add) B.pre
  have hown : s.vm.findClass RX0 = some m.cls := findClass_of_methodNamed B.named
  have hlocks := B.notSynchronized
  have hS : va_S (gA z0) s.heap s.heap [] := va_S.rf
  have hl := lv_entry ([.ref (ad 1), .int x1]) (n := 2) (Nat.le_of_ble_eq_true rfl)
  rw [lg_entry_eq]
  generalize (lg_sl ([.ref (ad 1), .int x1]) ++ List.replicate (2 - (lg_sl ([.ref (ad 1), .int x1])).length) Slot.unset).toArray = ls at hl ⊢
  have hl : lv_has ls 2 [(0, .ref (ad 1)), (1, .int x1)] := hl
  have iX0 := (show ∀ w ∈ u_ws RX0 TX0 2, w ∈ wsX0_add by decide +kernel)
  have f15 := hts (.fieldLink RX0 15 "AdventureParser$Buffer" "length" "I") (by decide +kernel)
  have f9 := hts (.fieldLink RX0 9 "AdventureParser$Buffer" "characters" "[C") (by decide +kernel)
  clear hB0
  unfold sX0_add at hs
  refine lv_aload_n hx hb dX0_add_0 rfl (lv_at hl 0 rfl) ?_
  refine va_get (D := D) (ci := 0) (v := .int (v 1 1)) (C := RX0) (T := TX0) (N := 2) hx hb hts iX0 hown hK.1 hP 1 (gW_0 kd1) rfl 1 (by decide) f15 (fun _ h9 => h9) rfl dX0_add_1 ?_
  refine lv_if_lt (tgt := 39) hx hb dX0_add_4 (by decide) (fun hc => ?_) (fun hc => ?_)
  · have hs := g_t hs hc
    exact gRet_v hx hb hr hlocks hK hP hS (g_some hs) dX0_add_39
  · have hs := g_f hs hc
    refine lv_aload_n hx hb dX0_add_7 rfl (lv_at hl 0 rfl) ?_
    refine va_get (D := D) (ci := 0) (v := .int (v 1 1)) (C := RX0) (T := TX0) (N := 2) hx hb hts iX0 hown hK.1 hP 1 (gW_0 kd1) rfl 1 (by decide) f15 (fun _ h9 => h9) rfl dX0_add_8 ?_
    refine lv_aload_n hx hb dX0_add_11 rfl (lv_at hl 0 rfl) ?_
    refine va_get (D := D) (ci := 0) (v := .ref (ad 2)) (C := RX0) (T := TX0) (N := 2) hx hb hts iX0 hown hK.1 hP 1 (gW_0 kd1) rfl 0 (by decide) f9 (fun _ h9 => h9) rfl dX0_add_12 ?_
    refine va_alen (v := 60) hx hb hK.1 hP 2 1 (gW_10 kd2) rfl rfl dX0_add_15 ?_
    refine lv_icmp_ge (tgt := 39) hx hb dX0_add_16 (by decide) (fun hc => ?_) (fun hc => ?_)
    · have hs := g_t hs hc
      exact gRet_v hx hb hr hlocks hK hP hS (g_some hs) dX0_add_39
    · have hs := g_f hs hc
      refine lv_aload_n hx hb dX0_add_19 rfl (lv_at hl 0 rfl) ?_
      refine va_get (D := D) (ci := 0) (v := .ref (ad 2)) (C := RX0) (T := TX0) (N := 2) hx hb hts iX0 hown hK.1 hP 1 (gW_0 kd1) rfl 0 (by decide) f9 (fun _ h9 => h9) rfl dX0_add_20 ?_
      refine lv_aload_n hx hb dX0_add_23 rfl (lv_at hl 0 rfl) ?_
      refine va_get (D := D) (ci := 0) (v := .int (v 1 1)) (C := RX0) (T := TX0) (N := 2) hx hb hts iX0 hown hK.1 hP 1 (gW_0 kd1) rfl 1 (by decide) f15 (fun _ h9 => h9) rfl dX0_add_24 ?_
      refine lv_iload_n hx hb dX0_add_27 rfl (lv_at hl 1 rfl) ?_
      refine g_chk hs (fun hc hs => ?_)
      refine va_cast hx hb hK.1 hP (gD hI) hS 2 1 (gW_10 kd2) rfl hc dX0_add_28 (fun H locs hP _ hS => ?_)
      refine g_let hs (fun v_1 ev_1 hs => ?_)
      have hP : va_P D vwCl (gW cy ad v_1 u) H := gPset ((gS_10 kd2 (v 1 1).toNatClampNeg (vp_nar .char x1)).trans (congrArg (fun z => gW cy ad z u) ev_1.symm)) hP
      refine lv_aload_n hx hb dX0_add_29 rfl (lv_at hl 0 rfl) ?_
      refine lv_dup hx hb dX0_add_30 rfl ?_
      refine va_get (D := D) (ci := 0) (v := .int (v_1 1 1)) (C := RX0) (T := TX0) (N := 2) hx hb hts iX0 hown hK.1 hP 1 (gW_0 kd1) rfl 1 (by decide) f15 (fun _ h9 => h9) rfl dX0_add_31 ?_
      refine lv_iconst (v := 1) hx hb dX0_add_34 (by decide) ?_
      refine lv_iadd hx hb dX0_add_35 ?_
      refine va_put (D := D) (ci := 0) (v := .int ((v_1 1 1) + 1)) (ty := .int) (C := RX0) (T := TX0) (N := 2) hx hb hts iX0 tyX0 tyX0_ok nmX0 hown hK.1 hP (gD hI) hS 1 (gW_0 kd1) rfl 1 (by decide) f15 (fun _ h9 => h9) rfl (by decide +kernel) rfl rfl (Nat.le_of_ble_eq_true rfl) dX0_add_36 (fun H locs hP _ hS => ?_)
      refine g_let hs (fun v_2 ev_2 hs => ?_)
      have hP : va_P D vwCl (gW cy ad v_2 u) H := gPset ((gS_0_1 kd1 ((v_1 1 1) + 1)).trans (congrArg (fun z => gW cy ad z u) ev_2.symm)) hP
      exact gRet_v hx hb hr hlocks hK hP hS (g_some hs) dX0_add_39
set_option maxHeartbeats 4000000 in
set_option maxRecDepth 100000 in
theorem cX0_characterAt_c (l : Launch) (D : va_G) (cy : Nat → ClassId) (ad : Nat → Nat) (tL z0 : Nat) (hI : gI z0 ad) (v : gV) (u : Int64) (x1 : Int32) (r0 : Int32) (hs : sX0_characterAt v x1 = some r0) : Met l yX0_characterAt wsX0_characterAt ({ frames := 0, cells := 0, slots := 0, locals := 0 } : Room) (gPc D cy ad tL z0 v u [.ref (ad 1), .int x1]) (gQi D cy ad tL z0 v u r0) 0 0 (gA z0) := by
  refine Met.ofW (cc := cX0_characterAt) (maxL := 2) (ret := (some .char)) (by decide) rfl ?_
  intro p e s m args below meth c s₁ B hml hv
  obtain ⟨rfl, hB0⟩ := hv
  have hP : va_P D vwCl (gW cy ad v u) s.heap := hB0.1
  have hK : gK D cy tL z0 s s.heap := hB0.2
  have hx := B.exec
  have hb := B.bytes
  have hr := B.returns
  have hts := atoms_spec (ws := wsX0_characterAt) B.pre
  have hown : s.vm.findClass RX0 = some m.cls := findClass_of_methodNamed B.named
  have hlocks := B.notSynchronized
  have hS : va_S (gA z0) s.heap s.heap [] := va_S.rf
  have hl := lv_entry ([.ref (ad 1), .int x1]) (n := 2) (Nat.le_of_ble_eq_true rfl)
  rw [lg_entry_eq]
  generalize (lg_sl ([.ref (ad 1), .int x1]) ++ List.replicate (2 - (lg_sl ([.ref (ad 1), .int x1])).length) Slot.unset).toArray = ls at hl ⊢
  have hl : lv_has ls 2 [(0, .ref (ad 1)), (1, .int x1)] := hl
  have iX0 := (show ∀ w ∈ u_ws RX0 TX0 2, w ∈ wsX0_characterAt by decide +kernel)
  have f15 := hts (.fieldLink RX0 15 "AdventureParser$Buffer" "length" "I") (by decide +kernel)
  have f9 := hts (.fieldLink RX0 9 "AdventureParser$Buffer" "characters" "[C") (by decide +kernel)
  clear hB0
  unfold sX0_characterAt at hs
  refine lv_iload_n hx hb dX0_characterAt_0 rfl (lv_at hl 1 rfl) ?_
  refine lv_if_lt (tgt := 30) hx hb dX0_characterAt_1 (by decide) (fun hc => ?_) (fun hc => ?_)
  · have hs := g_t hs hc
    refine lv_bipush (v := 32) hx hb dX0_characterAt_30 (by decide) ?_
    refine g_chk hs (fun hc hs => ?_)
    exact gRet_z hx hb hr hlocks (g_nc hc) hK hP hS ⟨g_some hs, rfl⟩ dX0_characterAt_32
  · have hs := g_f hs hc
    refine lv_iload_n hx hb dX0_characterAt_4 rfl (lv_at hl 1 rfl) ?_
    refine lv_aload_n hx hb dX0_characterAt_5 rfl (lv_at hl 0 rfl) ?_
    refine va_get (D := D) (ci := 0) (v := .int (v 1 1)) (C := RX0) (T := TX0) (N := 2) hx hb hts iX0 hown hK.1 hP 1 (gW_0 kd1) rfl 1 (by decide) f15 (fun _ h9 => h9) rfl dX0_characterAt_6 ?_
    refine lv_icmp_ge (tgt := 30) hx hb dX0_characterAt_9 (by decide) (fun hc => ?_) (fun hc => ?_)
    · have hs := g_t hs hc
      refine lv_bipush (v := 32) hx hb dX0_characterAt_30 (by decide) ?_
      refine g_chk hs (fun hc hs => ?_)
      exact gRet_z hx hb hr hlocks (g_nc hc) hK hP hS ⟨g_some hs, rfl⟩ dX0_characterAt_32
    · have hs := g_f hs hc
      refine lv_iload_n hx hb dX0_characterAt_12 rfl (lv_at hl 1 rfl) ?_
      refine lv_aload_n hx hb dX0_characterAt_13 rfl (lv_at hl 0 rfl) ?_
      refine va_get (D := D) (ci := 0) (v := .ref (ad 2)) (C := RX0) (T := TX0) (N := 2) hx hb hts iX0 hown hK.1 hP 1 (gW_0 kd1) rfl 0 (by decide) f9 (fun _ h9 => h9) rfl dX0_characterAt_14 ?_
      refine va_alen (v := 60) hx hb hK.1 hP 2 1 (gW_10 kd2) rfl rfl dX0_characterAt_17 ?_
      refine lv_icmp_ge (tgt := 30) hx hb dX0_characterAt_18 (by decide) (fun hc => ?_) (fun hc => ?_)
      · have hs := g_t hs hc
        refine lv_bipush (v := 32) hx hb dX0_characterAt_30 (by decide) ?_
        refine g_chk hs (fun hc hs => ?_)
        exact gRet_z hx hb hr hlocks (g_nc hc) hK hP hS ⟨g_some hs, rfl⟩ dX0_characterAt_32
      · have hs := g_f hs hc
        refine lv_aload_n hx hb dX0_characterAt_21 rfl (lv_at hl 0 rfl) ?_
        refine va_get (D := D) (ci := 0) (v := .ref (ad 2)) (C := RX0) (T := TX0) (N := 2) hx hb hts iX0 hown hK.1 hP 1 (gW_0 kd1) rfl 0 (by decide) f9 (fun _ h9 => h9) rfl dX0_characterAt_22 ?_
        refine lv_iload_n hx hb dX0_characterAt_25 rfl (lv_at hl 1 rfl) ?_
        refine g_chk hs (fun hc hs => ?_)
        refine va_cald hx hb hK.1 hP 2 1 (gW_10 kd2) rfl hc dX0_characterAt_26 ?_
        refine lv_goto (tgt := 32) hx hb dX0_characterAt_27 (by decide) ?_
        refine g_chk hs (fun hc hs => ?_)
        exact gRet_z hx hb hr hlocks (g_nc hc) hK hP hS ⟨g_some hs, rfl⟩ dX0_characterAt_32
set_option maxHeartbeats 4000000 in
set_option maxRecDepth 100000 in
theorem cX0_isSpace_c (l : Launch) (D : va_G) (cy : Nat → ClassId) (ad : Nat → Nat) (tL z0 : Nat) (hI : gI z0 ad) (v : gV) (u : Int64) (x1 : Int32) (r0 : Int32) (hs : sX0_isSpace v x1 = some r0) : Met l yX0_isSpace wsX0_isSpace ({ frames := 1, cells := 0, slots := 0, locals := 21 } : Room) (gPc D cy ad tL z0 v u [.ref (ad 1), .int x1]) (gQi D cy ad tL z0 v u r0) 0 0 (gA z0) := by
  refine Met.ofW (cc := cX0_isSpace) (maxL := 2) (ret := (some .boolean)) (by decide) rfl ?_
  intro p e s m args below meth c s₁ B hml hv
  obtain ⟨rfl, hB0⟩ := hv
  have hP : va_P D vwCl (gW cy ad v u) s.heap := hB0.1
  have hK : gK D cy tL z0 s s.heap := hB0.2
  have hx := B.exec
  have hb := B.bytes
  have hr := B.returns
  have hts := atoms_spec (ws := wsX0_isSpace) B.pre
  have hown : s.vm.findClass RX0 = some m.cls := findClass_of_methodNamed B.named
  have hlocks := B.notSynchronized
  have hS : va_S (gA z0) s.heap s.heap [] := va_S.rf
  have hl := lv_entry ([.ref (ad 1), .int x1]) (n := 2) (Nat.le_of_ble_eq_true rfl)
  rw [lg_entry_eq]
  generalize (lg_sl ([.ref (ad 1), .int x1]) ++ List.replicate (2 - (lg_sl ([.ref (ad 1), .int x1])).length) Slot.unset).toArray = ls at hl ⊢
  have hl : lv_has ls 2 [(0, .ref (ad 1)), (1, .int x1)] := hl
  clear hB0
  unfold sX0_isSpace at hs
  refine lv_aload_n hx hb dX0_isSpace_0 rfl (lv_at hl 0 rfl) ?_
  refine lv_iload_n hx hb dX0_isSpace_1 rfl (lv_at hl 1 rfl) ?_
  refine g_bind hs (fun q_1 hq_1 hs => ?_)
  refine gCV_i (As := [.int x1]) (rest := []) ⟨hx, hb, hml, hown, hts⟩ (cX0_characterAt_c l D cy ad tL z0 hI v u x1 q_1 hq_1) (cwV 1 hts gX0_isSpace_X0_characterAt rfl rfl rfl (by decide +kernel) ⟨Nat.le_of_ble_eq_true rfl, Nat.le_of_ble_eq_true rfl⟩) hK hP hS (va_recv hK.1 hP (ci := 0) (q0 := 1) rfl (gW_0 kd1)) hl.1 rfl rfl (Nat.le_of_ble_eq_true rfl) dX0_isSpace_2 ⟨Nat.zero_le _, Nat.zero_le _⟩ (fun H locs hP hS => ?_)
  refine lv_bipush (v := 32) hx hb dX0_isSpace_5 (by decide) ?_
  refine lv_icmp_ne (tgt := 14) hx hb dX0_isSpace_7 (by decide) (fun hc => ?_) (fun hc => ?_)
  · have hs := g_f hs hc
    refine lv_iconst (v := 0) hx hb dX0_isSpace_14 (by decide) ?_
    exact gRet_z hx hb hr hlocks rfl hK hP hS ⟨g_some hs, rfl⟩ dX0_isSpace_15
  · have hs := g_t hs hc
    refine lv_iconst (v := 1) hx hb dX0_isSpace_10 (by decide) ?_
    refine lv_goto (tgt := 15) hx hb dX0_isSpace_11 (by decide) ?_
    exact gRet_z hx hb hr hlocks rfl hK hP hS ⟨g_some hs, rfl⟩ dX0_isSpace_15
set_option maxHeartbeats 4000000 in
set_option maxRecDepth 100000 in
theorem cX5_letterOf_c (l : Launch) (D : va_G) (cy : Nat → ClassId) (ad : Nat → Nat) (tL z0 : Nat) (hI : gI z0 ad) (v : gV) (u : Int64) (x0 : Int32) (x1 : Int32) (r0 : Int32) (hs : sX5_letterOf v x0 x1 = some r0) : Met l yX5_letterOf wsX5_letterOf ({ frames := 0, cells := 0, slots := 0, locals := 0 } : Room) (gPc D cy ad tL z0 v u [.int x0, .int x1]) (gQi D cy ad tL z0 v u r0) 0 0 (gA z0) := by
  refine Met.ofW (cc := cX5_letterOf) (maxL := 3) (ret := (some .char)) (by decide) rfl ?_
  intro p e s m args below meth c s₁ B hml hv
  obtain ⟨rfl, hB0⟩ := hv
  have hP : va_P D vwCl (gW cy ad v u) s.heap := hB0.1
  have hK : gK D cy tL z0 s s.heap := hB0.2
  have hx := B.exec
  have hb := B.bytes
  have hr := B.returns
  have hts := atoms_spec (ws := wsX5_letterOf) B.pre
  have hown : s.vm.findClass RX5 = some m.cls := findClass_of_methodNamed B.named
  have hlocks := B.notSynchronized
  have hS : va_S (gA z0) s.heap s.heap [] := va_S.rf
  have hl := lv_entry ([.int x0, .int x1]) (n := 3) (Nat.le_of_ble_eq_true rfl)
  rw [lg_entry_eq]
  generalize (lg_sl ([.int x0, .int x1]) ++ List.replicate (3 - (lg_sl ([.int x0, .int x1])).length) Slot.unset).toArray = ls at hl ⊢
  have hl : lv_has ls 3 [(0, .int x0), (1, .int x1)] := hl
  have f246 := hts (.fieldLink RX5 246 "AdventureParser" "LETTERS" "[C") (by decide +kernel)
  clear hB0
  unfold sX5_letterOf at hs
  refine lv_iload_n hx hb dX5_letterOf_0 rfl (lv_at hl 0 rfl) ?_
  refine lv_iconst (v := 5) hx hb dX5_letterOf_1 (by decide) ?_
  refine lv_imul hx hb dX5_letterOf_2 ?_
  refine lv_iload_n hx hb dX5_letterOf_3 rfl (lv_at hl 1 rfl) ?_
  refine lv_iadd hx hb dX5_letterOf_4 ?_
  refine lv_istore_n (lv' := [(2, .int ((x0 * 5) + x1)), (0, .int x0), (1, .int x1)]) hx hb dX5_letterOf_5 rfl hl (by decide) rfl (fun ls hl => ?_)
  refine lv_iload_n hx hb dX5_letterOf_6 rfl (lv_at hl 2 rfl) ?_
  refine lv_iconst (v := 5) hx hb dX5_letterOf_7 (by decide) ?_
  refine lv_icmp_ge (tgt := 31) hx hb dX5_letterOf_8 (by decide) (fun hc => ?_) (fun hc => ?_)
  · have hs := g_t hs hc
    refine lv_bipush (v := 32) hx hb dX5_letterOf_31 (by decide) ?_
    refine g_chk hs (fun hc hs => ?_)
    exact gRet_z hx hb hr hlocks (g_nc hc) hK hP hS ⟨g_some hs, rfl⟩ dX5_letterOf_33
  · have hs := g_f hs hc
    refine lv_iload_n hx hb dX5_letterOf_11 rfl (lv_at hl 0 rfl) ?_
    refine lv_if_lt (tgt := 31) hx hb dX5_letterOf_12 (by decide) (fun hc => ?_) (fun hc => ?_)
    · have hs := g_t hs hc
      refine lv_bipush (v := 32) hx hb dX5_letterOf_31 (by decide) ?_
      refine g_chk hs (fun hc hs => ?_)
      exact gRet_z hx hb hr hlocks (g_nc hc) hK hP hS ⟨g_some hs, rfl⟩ dX5_letterOf_33
    · have hs := g_f hs hc
      refine lv_iload_n hx hb dX5_letterOf_15 rfl (lv_at hl 0 rfl) ?_
      refine va_gets hx hb hK.2.1 hS hown f246 (fun _ h9 => h9) dX5_letterOf_16 ?_
      refine va_tlen (v := 125) hx hb hK.2.2.1 hS (by decide) dX5_letterOf_19 ?_
      refine lv_icmp_ge (tgt := 31) hx hb dX5_letterOf_20 (by decide) (fun hc => ?_) (fun hc => ?_)
      · have hs := g_t hs hc
        refine lv_bipush (v := 32) hx hb dX5_letterOf_31 (by decide) ?_
        refine g_chk hs (fun hc hs => ?_)
        exact gRet_z hx hb hr hlocks (g_nc hc) hK hP hS ⟨g_some hs, rfl⟩ dX5_letterOf_33
      · have hs := g_f hs hc
        refine va_gets hx hb hK.2.1 hS hown f246 (fun _ h9 => h9) dX5_letterOf_23 ?_
        refine lv_iload_n hx hb dX5_letterOf_26 rfl (lv_at hl 0 rfl) ?_
        refine g_chk hs (fun hc hs => ?_)
        refine va_tc (v := .int (gLet.getD ((x0 * 5) + x1).toNatClampNeg 0)) hx hb hK.2.2.1 hS hc rfl dX5_letterOf_27 ?_
        refine lv_goto (tgt := 33) hx hb dX5_letterOf_28 (by decide) ?_
        refine g_chk hs (fun hc hs => ?_)
        exact gRet_z hx hb hr hlocks (g_nc hc) hK hP hS ⟨g_some hs, rfl⟩ dX5_letterOf_33
set_option maxHeartbeats 4000000 in
set_option maxRecDepth 100000 in
theorem cX5_lengthOf_c (l : Launch) (D : va_G) (cy : Nat → ClassId) (ad : Nat → Nat) (tL z0 : Nat) (hI : gI z0 ad) (n : Nat) (v : gV) (u : Int64) (x0 : Int32) (r0 : Int32) (hs : sX5_lengthOf n v x0 = some r0) : Met l yX5_lengthOf wsX5_lengthOf ({ frames := 1, cells := 0, slots := 0, locals := 22 } : Room) (gPc D cy ad tL z0 v u [.int x0]) (gQi D cy ad tL z0 v u r0) 0 0 (gA z0) := by
  refine Met.ofW (cc := cX5_lengthOf) (maxL := 2) (ret := (some .int)) (by decide) rfl ?_
  intro p e s m args below meth c s₁ B hml hv
  obtain ⟨rfl, hB0⟩ := hv
  have hP : va_P D vwCl (gW cy ad v u) s.heap := hB0.1
  have hK : gK D cy tL z0 s s.heap := hB0.2
  have hx := B.exec
  have hb := B.bytes
  have hr := B.returns
  have hts := atoms_spec (ws := wsX5_lengthOf) B.pre
  have hown : s.vm.findClass RX5 = some m.cls := findClass_of_methodNamed B.named
  have hlocks := B.notSynchronized
  have hS : va_S (gA z0) s.heap s.heap [] := va_S.rf
  have hl := lv_entry ([.int x0]) (n := 2) (Nat.le_of_ble_eq_true rfl)
  rw [lg_entry_eq]
  generalize (lg_sl ([.int x0]) ++ List.replicate (2 - (lg_sl ([.int x0])).length) Slot.unset).toArray = ls at hl ⊢
  have hl : lv_has ls 2 [(0, .int x0)] := hl
  clear hB0
  have hL_2 : ∀ (k : Nat), ∀ (w0 : Int32) (w1 : Int32) (H : Heap) (locs : List Loc) (ls : Array Slot), va_P D vwCl (gW cy ad v u) H → va_S (gA z0) s.heap H locs → lv_has ls 2 [(0, .int w0), (1, .int w1)] → sX5_lengthOf_2 n k v w0 w1 = some r0 → W p l e (headSpec wsX5_lengthOf ({ frames := 1, cells := 0, slots := 0, locals := 22 } : Room)).room s m ([.int x0] : List Value).toArray below meth c H locs 0 0 (MQ below (gQi D cy ad tL z0 v u r0) ([.int x0] : List Value).toArray s 0 0 (gA z0)) (F0 m 2 ls []) := by
    intro k
    induction k with
    | zero =>
      intro w0 w1 H locs ls hP hS hl hs
      exact g_none hs
    | succ k ih =>
      intro w0 w1 H locs ls hP hS hl hs
      rw [sX5_lengthOf_2] at hs
      refine lv_iload_n hx hb dX5_lengthOf_2 rfl (lv_at hl 1 rfl) ?_
      refine lv_iconst (v := 5) hx hb dX5_lengthOf_3 (by decide) ?_
      refine lv_icmp_ge (tgt := 23) hx hb dX5_lengthOf_4 (by decide) (fun hc => ?_) (fun hc => ?_)
      · have hs := g_t hs hc
        refine lv_iload_n hx hb dX5_lengthOf_23 rfl (lv_at hl 1 rfl) ?_
        exact gRet_i hx hb hr hlocks hK hP hS ⟨g_some hs, rfl⟩ dX5_lengthOf_24
      · have hs := g_f hs hc
        refine lv_iload_n hx hb dX5_lengthOf_7 rfl (lv_at hl 0 rfl) ?_
        refine lv_iload_n hx hb dX5_lengthOf_8 rfl (lv_at hl 1 rfl) ?_
        refine g_bind hs (fun q_1 hq_1 hs => ?_)
        refine gCS_i (As := [.int w0, .int w1]) (rest := []) ⟨hx, hb, hml, hown, hts⟩ (cX5_letterOf_c l D cy ad tL z0 hI v u w0 w1 q_1 hq_1) (va_cwS 2 hts gX5_lengthOf_X5_letterOf rfl rfl rfl (by decide +kernel) ⟨Nat.le_of_ble_eq_true rfl, Nat.le_of_ble_eq_true rfl⟩) hK hP hS hl.1 rfl rfl (Nat.le_of_ble_eq_true rfl) dX5_lengthOf_9 ⟨Nat.zero_le _, Nat.zero_le _⟩ (fun H locs hP hS => ?_)
        refine lv_bipush (v := 32) hx hb dX5_lengthOf_12 (by decide) ?_
        refine lv_icmp_eq (tgt := 23) hx hb dX5_lengthOf_14 (by decide) (fun hc => ?_) (fun hc => ?_)
        · have hs := g_t hs hc
          refine lv_iload_n hx hb dX5_lengthOf_23 rfl (lv_at hl 1 rfl) ?_
          exact gRet_i hx hb hr hlocks hK hP hS ⟨g_some hs, rfl⟩ dX5_lengthOf_24
        · have hs := g_f hs hc
          refine lv_iinc (v := w1 + 1) (lv' := [(1, .int (w1 + 1)), (0, .int w0)]) hx hb dX5_lengthOf_17 hl (k := 1) rfl rfl (by decide) rfl (fun ls hl => ?_)
          refine lv_goto (tgt := 2) hx hb dX5_lengthOf_20 (by decide) ?_
          exact ih w0 (w1 + 1) _ _ _ hP hS (lv_sub hl [1, 0] rfl) hs
  unfold sX5_lengthOf at hs
  refine lv_iconst (v := 0) hx hb dX5_lengthOf_0 (by decide) ?_
  refine lv_istore_n (lv' := [(1, .int 0), (0, .int x0)]) hx hb dX5_lengthOf_1 rfl hl (by decide) rfl (fun ls hl => ?_)
  exact hL_2 n x0 0 _ _ _ hP hS (lv_sub hl [1, 0] rfl) hs
set_option maxHeartbeats 4000000 in
set_option maxRecDepth 100000 in
theorem cX0_begins_c (l : Launch) (D : va_G) (cy : Nat → ClassId) (ad : Nat → Nat) (tL z0 : Nat) (hI : gI z0 ad) (n : Nat) (v : gV) (u : Int64) (x1 : Int32) (x2 : Int32) (x3 : Int32) (r0 : Int32) (hs : sX0_begins n v x1 x2 x3 = some r0) : Met l yX0_begins wsX0_begins ({ frames := 2, cells := 0, slots := 0, locals := 43 } : Room) (gPc D cy ad tL z0 v u [.ref (ad 1), .int x1, .int x2, .int x3]) (gQi D cy ad tL z0 v u r0) 0 0 (gA z0) := by
  refine Met.ofW (cc := cX0_begins) (maxL := 5) (ret := (some .boolean)) (by decide) rfl ?_
  intro p e s m args below meth c s₁ B hml hv
  obtain ⟨rfl, hB0⟩ := hv
  have hP : va_P D vwCl (gW cy ad v u) s.heap := hB0.1
  have hK : gK D cy tL z0 s s.heap := hB0.2
  have hx := B.exec
  have hb := B.bytes
  have hr := B.returns
  have hts := atoms_spec (ws := wsX0_begins) B.pre
  have hown : s.vm.findClass RX0 = some m.cls := findClass_of_methodNamed B.named
  have hlocks := B.notSynchronized
  have hS : va_S (gA z0) s.heap s.heap [] := va_S.rf
  have hl := lv_entry ([.ref (ad 1), .int x1, .int x2, .int x3]) (n := 5) (Nat.le_of_ble_eq_true rfl)
  rw [lg_entry_eq]
  generalize (lg_sl ([.ref (ad 1), .int x1, .int x2, .int x3]) ++ List.replicate (5 - (lg_sl ([.ref (ad 1), .int x1, .int x2, .int x3])).length) Slot.unset).toArray = ls at hl ⊢
  have hl : lv_has ls 5 [(0, .ref (ad 1)), (1, .int x1), (2, .int x2), (3, .int x3)] := hl
  have stX5_lengthOf := hts (.static yX5_lengthOf) (by decide +kernel)
  have inX5 := hts (.initialized RX5) (by decide +kernel)
  have stX5_letterOf := hts (.static yX5_letterOf) (by decide +kernel)
  clear hB0
  have hL_15 : ∀ (k : Nat), ∀ (w1 : Int32) (w2 : Int32) (w3 : Int32) (w4 : Int32) (H : Heap) (locs : List Loc) (ls : Array Slot), va_P D vwCl (gW cy ad v u) H → va_S (gA z0) s.heap H locs → lv_has ls 5 [(0, .ref (ad 1)), (1, .int w1), (2, .int w2), (3, .int w3), (4, .int w4)] → sX0_begins_15 n k v w1 w2 w3 w4 = some r0 → W p l e (headSpec wsX0_begins ({ frames := 2, cells := 0, slots := 0, locals := 43 } : Room)).room s m ([.ref (ad 1), .int x1, .int x2, .int x3] : List Value).toArray below meth c H locs 0 0 (MQ below (gQi D cy ad tL z0 v u r0) ([.ref (ad 1), .int x1, .int x2, .int x3] : List Value).toArray s 0 0 (gA z0)) (F0 m 15 ls []) := by
    intro k
    induction k with
    | zero =>
      intro w1 w2 w3 w4 H locs ls hP hS hl hs
      exact g_none hs
    | succ k ih =>
      intro w1 w2 w3 w4 H locs ls hP hS hl hs
      rw [sX0_begins_15] at hs
      refine lv_iload hx hb dX0_begins_15 (lv_at hl 4 rfl) ?_
      refine lv_iload_n hx hb dX0_begins_17 rfl (lv_at hl 3 rfl) ?_
      refine lv_icmp_ge (tgt := 46) hx hb dX0_begins_18 (by decide) (fun hc => ?_) (fun hc => ?_)
      · have hs := g_t hs hc
        refine lv_iconst (v := 1) hx hb dX0_begins_46 (by decide) ?_
        exact gRet_z hx hb hr hlocks rfl hK hP hS ⟨g_some hs, rfl⟩ dX0_begins_47
      · have hs := g_f hs hc
        refine lv_aload_n hx hb dX0_begins_21 rfl (lv_at hl 0 rfl) ?_
        refine lv_iload hx hb dX0_begins_22 (lv_at hl 4 rfl) ?_
        refine g_bind hs (fun q_2 hq_2 hs => ?_)
        refine gCV_i (As := [.int w4]) (rest := []) ⟨hx, hb, hml, hown, hts⟩ (cX0_characterAt_c l D cy ad tL z0 hI v u w4 q_2 hq_2) (cwV 1 hts gX0_begins_X0_characterAt rfl rfl rfl (by decide +kernel) ⟨Nat.le_of_ble_eq_true rfl, Nat.le_of_ble_eq_true rfl⟩) hK hP hS (va_recv hK.1 hP (ci := 0) (q0 := 1) rfl (gW_0 kd1)) hl.1 rfl rfl (Nat.le_of_ble_eq_true rfl) dX0_begins_24 ⟨Nat.zero_le _, Nat.zero_le _⟩ (fun H locs hP hS => ?_)
        refine lv_iload_n hx hb dX0_begins_27 rfl (lv_at hl 1 rfl) ?_
        refine lv_iload hx hb dX0_begins_28 (lv_at hl 4 rfl) ?_
        refine lv_iload_n hx hb dX0_begins_30 rfl (lv_at hl 2 rfl) ?_
        refine lv_isub hx hb dX0_begins_31 ?_
        refine g_bind hs (fun q_3 hq_3 hs => ?_)
        refine gCN_i (As := [.int w1, .int (w4 - w2)]) (rest := [.int q_2]) ⟨hx, hb, hml, hown, hts⟩ (cX5_letterOf_c l D cy ad tL z0 hI v u w1 (w4 - w2) q_3 hq_3) (va_cnB (host := RX5) 2 hts gX0_begins_X5_letterOf_n27 rfl rfl rfl (hK.2.2.2.1 _ (List.mem_of_getElem? (i := 8) rfl)) inX5 (by decide +kernel) ⟨Nat.le_of_ble_eq_true rfl, Nat.le_of_ble_eq_true rfl⟩) stX5_letterOf hK hP hS hl.1 rfl rfl (Nat.le_of_ble_eq_true rfl) dX0_begins_32 ⟨Nat.zero_le _, Nat.zero_le _⟩ (fun H locs hP hS => ?_)
        refine lv_icmp_eq (tgt := 40) hx hb dX0_begins_35 (by decide) (fun hc => ?_) (fun hc => ?_)
        · have hs := g_t hs hc
          refine lv_iinc (v := w4 + 1) (lv' := [(4, .int (w4 + 1)), (0, .ref (ad 1)), (1, .int w1), (2, .int w2), (3, .int w3)]) hx hb dX0_begins_40 hl (k := 4) rfl rfl (by decide) rfl (fun ls hl => ?_)
          refine lv_goto (tgt := 15) hx hb dX0_begins_43 (by decide) ?_
          exact ih w1 w2 w3 (w4 + 1) _ _ _ hP hS (lv_sub hl [1, 2, 3, 4, 0] rfl) hs
        · have hs := g_f hs hc
          refine lv_iconst (v := 0) hx hb dX0_begins_38 (by decide) ?_
          exact gRet_z hx hb hr hlocks rfl hK hP hS ⟨g_some hs, rfl⟩ dX0_begins_39
  unfold sX0_begins at hs
  refine lv_iload_n hx hb dX0_begins_0 rfl (lv_at hl 3 rfl) ?_
  refine lv_iload_n hx hb dX0_begins_1 rfl (lv_at hl 2 rfl) ?_
  refine lv_isub hx hb dX0_begins_2 ?_
  refine lv_iload_n hx hb dX0_begins_3 rfl (lv_at hl 1 rfl) ?_
  refine g_bind hs (fun q_1 hq_1 hs => ?_)
  refine gCN_i (As := [.int x1]) (rest := [.int (x3 - x2)]) ⟨hx, hb, hml, hown, hts⟩ (cX5_lengthOf_c l D cy ad tL z0 hI n v u x1 q_1 hq_1) (va_cnB (host := RX5) 1 hts gX0_begins_X5_lengthOf_n23 rfl rfl rfl (hK.2.2.2.1 _ (List.mem_of_getElem? (i := 9) rfl)) inX5 (by decide +kernel) ⟨Nat.le_of_ble_eq_true rfl, Nat.le_of_ble_eq_true rfl⟩) stX5_lengthOf hK hP hS hl.1 rfl rfl (Nat.le_of_ble_eq_true rfl) dX0_begins_4 ⟨Nat.zero_le _, Nat.zero_le _⟩ (fun H locs hP hS => ?_)
  refine lv_icmp_le (tgt := 12) hx hb dX0_begins_7 (by decide) (fun hc => ?_) (fun hc => ?_)
  · have hs := g_t hs hc
    refine lv_iload_n hx hb dX0_begins_12 rfl (lv_at hl 2 rfl) ?_
    refine lv_istore (lv' := [(4, .int x2), (0, .ref (ad 1)), (1, .int x1), (2, .int x2), (3, .int x3)]) hx hb dX0_begins_13 hl (by decide) rfl (fun ls hl => ?_)
    exact hL_15 n x1 x2 x3 x2 _ _ _ hP hS (lv_sub hl [1, 2, 3, 4, 0] rfl) hs
  · have hs := g_f hs hc
    refine lv_iconst (v := 0) hx hb dX0_begins_10 (by decide) ?_
    exact gRet_z hx hb hr hlocks rfl hK hP hS ⟨g_some hs, rfl⟩ dX0_begins_11
set_option maxHeartbeats 4000000 in
set_option maxRecDepth 100000 in
theorem cX0_wordAt_c (l : Launch) (D : va_G) (cy : Nat → ClassId) (ad : Nat → Nat) (tL z0 : Nat) (hI : gI z0 ad) (n : Nat) (v : gV) (u : Int64) (x1 : Int32) (x2 : Int32) (r0 : Int32) (hs : sX0_wordAt n v x1 x2 = some r0) : Met l yX0_wordAt wsX0_wordAt ({ frames := 3, cells := 0, slots := 0, locals := 67 } : Room) (gPc D cy ad tL z0 v u [.ref (ad 1), .int x1, .int x2]) (gQi D cy ad tL z0 v u r0) 0 0 (gA z0) := by
  refine Met.ofW (cc := cX0_wordAt) (maxL := 4) (ret := (some .int)) (by decide) rfl ?_
  intro p e s m args below meth c s₁ B hml hv
  obtain ⟨rfl, hB0⟩ := hv
  have hP : va_P D vwCl (gW cy ad v u) s.heap := hB0.1
  have hK : gK D cy tL z0 s s.heap := hB0.2
  have hx := B.exec
  have hb := B.bytes
  have hr := B.returns
  have hts := atoms_spec (ws := wsX0_wordAt) B.pre
  have hown : s.vm.findClass RX0 = some m.cls := findClass_of_methodNamed B.named
  have hlocks := B.notSynchronized
  have hS : va_S (gA z0) s.heap s.heap [] := va_S.rf
  have hl := lv_entry ([.ref (ad 1), .int x1, .int x2]) (n := 4) (Nat.le_of_ble_eq_true rfl)
  rw [lg_entry_eq]
  generalize (lg_sl ([.ref (ad 1), .int x1, .int x2]) ++ List.replicate (4 - (lg_sl ([.ref (ad 1), .int x1, .int x2])).length) Slot.unset).toArray = ls at hl ⊢
  have hl : lv_has ls 4 [(0, .ref (ad 1)), (1, .int x1), (2, .int x2)] := hl
  have stX5_lengthOf := hts (.static yX5_lengthOf) (by decide +kernel)
  have inX5 := hts (.initialized RX5) (by decide +kernel)
  clear hB0
  have hL_2 : ∀ (k : Nat), ∀ (w1 : Int32) (w2 : Int32) (w3 : Int32) (H : Heap) (locs : List Loc) (ls : Array Slot), va_P D vwCl (gW cy ad v u) H → va_S (gA z0) s.heap H locs → lv_has ls 4 [(0, .ref (ad 1)), (1, .int w1), (2, .int w2), (3, .int w3)] → sX0_wordAt_2 n k v w1 w2 w3 = some r0 → W p l e (headSpec wsX0_wordAt ({ frames := 3, cells := 0, slots := 0, locals := 67 } : Room)).room s m ([.ref (ad 1), .int x1, .int x2] : List Value).toArray below meth c H locs 0 0 (MQ below (gQi D cy ad tL z0 v u r0) ([.ref (ad 1), .int x1, .int x2] : List Value).toArray s 0 0 (gA z0)) (F0 m 2 ls []) := by
    intro k
    induction k with
    | zero =>
      intro w1 w2 w3 H locs ls hP hS hl hs
      exact g_none hs
    | succ k ih =>
      intro w1 w2 w3 H locs ls hP hS hl hs
      rw [sX0_wordAt_2] at hs
      refine lv_iload_n hx hb dX0_wordAt_2 rfl (lv_at hl 3 rfl) ?_
      refine lv_bipush (v := 25) hx hb dX0_wordAt_3 (by decide) ?_
      refine lv_icmp_ge (tgt := 36) hx hb dX0_wordAt_5 (by decide) (fun hc => ?_) (fun hc => ?_)
      · have hs := g_t hs hc
        refine lv_iconst (v := (-1)) hx hb dX0_wordAt_36 (by decide) ?_
        exact gRet_i hx hb hr hlocks hK hP hS ⟨g_some hs, rfl⟩ dX0_wordAt_37
      · have hs := g_f hs hc
        refine lv_iload_n hx hb dX0_wordAt_8 rfl (lv_at hl 2 rfl) ?_
        refine lv_iload_n hx hb dX0_wordAt_9 rfl (lv_at hl 1 rfl) ?_
        refine lv_isub hx hb dX0_wordAt_10 ?_
        refine lv_iload_n hx hb dX0_wordAt_11 rfl (lv_at hl 3 rfl) ?_
        refine g_bind hs (fun q_1 hq_1 hs => ?_)
        refine gCN_i (As := [.int w3]) (rest := [.int (w2 - w1)]) ⟨hx, hb, hml, hown, hts⟩ (cX5_lengthOf_c l D cy ad tL z0 hI n v u w3 q_1 hq_1) (va_cnB (host := RX5) 1 hts gX0_wordAt_X5_lengthOf_n23 rfl rfl rfl (hK.2.2.2.1 _ (List.mem_of_getElem? (i := 9) rfl)) inX5 (by decide +kernel) ⟨Nat.le_of_ble_eq_true rfl, Nat.le_of_ble_eq_true rfl⟩) stX5_lengthOf hK hP hS hl.1 rfl rfl (Nat.le_of_ble_eq_true rfl) dX0_wordAt_12 ⟨Nat.zero_le _, Nat.zero_le _⟩ (fun H locs hP hS => ?_)
        refine lv_icmp_ne (tgt := 30) hx hb dX0_wordAt_15 (by decide) (fun hc => ?_) (fun hc => ?_)
        · have hs := g_f hs hc
          refine lv_iinc (v := w3 + 1) (lv' := [(3, .int (w3 + 1)), (0, .ref (ad 1)), (1, .int w1), (2, .int w2)]) hx hb dX0_wordAt_30 hl (k := 3) rfl rfl (by decide) rfl (fun ls hl => ?_)
          refine lv_goto (tgt := 2) hx hb dX0_wordAt_33 (by decide) ?_
          exact ih w1 w2 (w3 + 1) _ _ _ hP hS (lv_sub hl [1, 2, 3, 0] rfl) hs
        · have hs := g_t hs hc
          refine lv_aload_n hx hb dX0_wordAt_18 rfl (lv_at hl 0 rfl) ?_
          refine lv_iload_n hx hb dX0_wordAt_19 rfl (lv_at hl 3 rfl) ?_
          refine lv_iload_n hx hb dX0_wordAt_20 rfl (lv_at hl 1 rfl) ?_
          refine lv_iload_n hx hb dX0_wordAt_21 rfl (lv_at hl 2 rfl) ?_
          refine g_bind hs (fun q_2 hq_2 hs => ?_)
          refine gCV_i (As := [.int w3, .int w1, .int w2]) (rest := []) ⟨hx, hb, hml, hown, hts⟩ (cX0_begins_c l D cy ad tL z0 hI n v u w3 w1 w2 q_2 hq_2) (cwV 3 hts gX0_wordAt_X0_begins rfl rfl rfl (by decide +kernel) ⟨Nat.le_of_ble_eq_true rfl, Nat.le_of_ble_eq_true rfl⟩) hK hP hS (va_recv hK.1 hP (ci := 0) (q0 := 1) rfl (gW_0 kd1)) hl.1 rfl rfl (Nat.le_of_ble_eq_true rfl) dX0_wordAt_22 ⟨Nat.zero_le _, Nat.zero_le _⟩ (fun H locs hP hS => ?_)
          refine lv_if_eq (tgt := 30) hx hb dX0_wordAt_25 (by decide) (fun hc => ?_) (fun hc => ?_)
          · have hs := g_t hs hc
            refine lv_iinc (v := w3 + 1) (lv' := [(3, .int (w3 + 1)), (0, .ref (ad 1)), (1, .int w1), (2, .int w2)]) hx hb dX0_wordAt_30 hl (k := 3) rfl rfl (by decide) rfl (fun ls hl => ?_)
            refine lv_goto (tgt := 2) hx hb dX0_wordAt_33 (by decide) ?_
            exact ih w1 w2 (w3 + 1) _ _ _ hP hS (lv_sub hl [1, 2, 3, 0] rfl) hs
          · have hs := g_f hs hc
            refine lv_iload_n hx hb dX0_wordAt_28 rfl (lv_at hl 3 rfl) ?_
            exact gRet_i hx hb hr hlocks hK hP hS ⟨g_some hs, rfl⟩ dX0_wordAt_29
  unfold sX0_wordAt at hs
  refine lv_iconst (v := 0) hx hb dX0_wordAt_0 (by decide) ?_
  refine lv_istore_n (lv' := [(3, .int 0), (0, .ref (ad 1)), (1, .int x1), (2, .int x2)]) hx hb dX0_wordAt_1 rfl hl (by decide) rfl (fun ls hl => ?_)
  exact hL_2 n x1 x2 0 _ _ _ hP hS (lv_sub hl [1, 2, 3, 0] rfl) hs
set_option maxHeartbeats 4000000 in
set_option maxRecDepth 100000 in
theorem cX1_reset_c (l : Launch) (D : va_G) (cy : Nat → ClassId) (ad : Nat → Nat) (tL z0 : Nat) (hI : gI z0 ad) (n : Nat) (v : gV) (u : Int64) (a0 : Nat) (v1 : gV) (hk0 : kd a0 = 1) (hs : sX1_reset n v a0 = some v1) : Met l yX1_reset wsX1_reset ({ frames := 0, cells := 0, slots := 0, locals := 0 } : Room) (gPc D cy ad tL z0 v u [.ref (ad a0)]) (gQv D cy ad tL z0 v1 u) 0 0 (gA z0) := by
  refine Met.ofW (cc := cX1_reset) (maxL := 2) (ret := none) (by decide) rfl ?_
  intro p e s m args below meth c s₁ B hml hv
  obtain ⟨rfl, hB0⟩ := hv
  have hP : va_P D vwCl (gW cy ad v u) s.heap := hB0.1
  have hK : gK D cy tL z0 s s.heap := hB0.2
  have hx := B.exec
  have hb := B.bytes
  have hr := B.returns
  have hts := atoms_spec (ws := wsX1_reset) B.pre
  have hown : s.vm.findClass RX1 = some m.cls := findClass_of_methodNamed B.named
  have hlocks := B.notSynchronized
  have hS : va_S (gA z0) s.heap s.heap [] := va_S.rf
  have hl := lv_entry ([.ref (ad a0)]) (n := 2) (Nat.le_of_ble_eq_true rfl)
  rw [lg_entry_eq]
  generalize (lg_sl ([.ref (ad a0)]) ++ List.replicate (2 - (lg_sl ([.ref (ad a0)])).length) Slot.unset).toArray = ls at hl ⊢
  have hl : lv_has ls 2 [(0, .ref (ad a0))] := hl
  have iX1 := (show ∀ w ∈ u_ws RX1 TX1 8, w ∈ wsX1_reset by decide +kernel)
  have f21 := hts (.fieldLink RX1 21 "AdventureParser$Command" "verb" "I") (by decide +kernel)
  have f25 := hts (.fieldLink RX1 25 "AdventureParser$Command" "form" "I") (by decide +kernel)
  have f28 := hts (.fieldLink RX1 28 "AdventureParser$Command" "targetIsSingle" "Z") (by decide +kernel)
  have f32 := hts (.fieldLink RX1 32 "AdventureParser$Command" "listed" "I") (by decide +kernel)
  have f35 := hts (.fieldLink RX1 35 "AdventureParser$Command" "slot" "I") (by decide +kernel)
  have f11 := hts (.fieldLink RX1 11 "AdventureParser$Command" "nouns" "[I") (by decide +kernel)
  have f15 := hts (.fieldLink RX1 15 "AdventureParser$Command" "adjectives" "[I") (by decide +kernel)
  have f18 := hts (.fieldLink RX1 18 "AdventureParser$Command" "chosen" "[I") (by decide +kernel)
  clear hB0
  have hL_2 : ∀ (k : Nat), ∀ (v : gV) (w1 : Int32) (H : Heap) (locs : List Loc) (ls : Array Slot), va_P D vwCl (gW cy ad v u) H → va_S (gA z0) s.heap H locs → lv_has ls 2 [(0, .ref (ad a0)), (1, .int w1)] → sX1_reset_2 n a0 k v w1 = some v1 → W p l e (headSpec wsX1_reset ({ frames := 0, cells := 0, slots := 0, locals := 0 } : Room)).room s m ([.ref (ad a0)] : List Value).toArray below meth c H locs 0 0 (MQ below (gQv D cy ad tL z0 v1 u) ([.ref (ad a0)] : List Value).toArray s 0 0 (gA z0)) (F0 m 2 ls []) := by
    intro k
    induction k with
    | zero =>
      intro v w1 H locs ls hP hS hl hs
      exact g_none hs
    | succ k ih =>
      intro v w1 H locs ls hP hS hl hs
      rw [sX1_reset_2] at hs
      refine lv_iload_n hx hb dX1_reset_2 rfl (lv_at hl 1 rfl) ?_
      refine lv_bipush (v := 8) hx hb dX1_reset_3 (by decide) ?_
      refine lv_icmp_ge (tgt := 35) hx hb dX1_reset_5 (by decide) (fun hc => ?_) (fun hc => ?_)
      · have hs := g_t hs hc
        refine lv_aload_n hx hb dX1_reset_35 rfl (lv_at hl 0 rfl) ?_
        refine lv_iconst (v := (-1)) hx hb dX1_reset_36 (by decide) ?_
        refine va_put (D := D) (ci := 1) (v := .int ((-1))) (ty := .int) (C := RX1) (T := TX1) (N := 8) hx hb hts iX1 tyX1 tyX1_ok nmX1 hown hK.1 hP (gD hI) hS a0 (gW_1 hk0) rfl 3 (by decide) f21 (fun _ h9 => h9) rfl (by decide +kernel) rfl rfl (Nat.le_of_ble_eq_true rfl) dX1_reset_37 (fun H locs hP _ hS => ?_)
        refine g_let hs (fun v_1 ev_1 hs => ?_)
        have hP : va_P D vwCl (gW cy ad v_1 u) H := gPset ((gS_1_3 hk0 ((-1))).trans (congrArg (fun z => gW cy ad z u) ev_1.symm)) hP
        refine lv_aload_n hx hb dX1_reset_40 rfl (lv_at hl 0 rfl) ?_
        refine lv_iconst (v := 0) hx hb dX1_reset_41 (by decide) ?_
        refine va_put (D := D) (ci := 1) (v := .int 0) (ty := .int) (C := RX1) (T := TX1) (N := 8) hx hb hts iX1 tyX1 tyX1_ok nmX1 hown hK.1 hP (gD hI) hS a0 (gW_1 hk0) rfl 4 (by decide) f25 (fun _ h9 => h9) rfl (by decide +kernel) rfl rfl (Nat.le_of_ble_eq_true rfl) dX1_reset_42 (fun H locs hP _ hS => ?_)
        refine g_let hs (fun v_2 ev_2 hs => ?_)
        have hP : va_P D vwCl (gW cy ad v_2 u) H := gPset ((gS_1_4 hk0 0).trans (congrArg (fun z => gW cy ad z u) ev_2.symm)) hP
        refine lv_aload_n hx hb dX1_reset_45 rfl (lv_at hl 0 rfl) ?_
        refine lv_iconst (v := 0) hx hb dX1_reset_46 (by decide) ?_
        refine va_put (D := D) (ci := 1) (v := .int 0) (ty := .boolean) (C := RX1) (T := TX1) (N := 8) hx hb hts iX1 tyX1 tyX1_ok nmX1 hown hK.1 hP (gD hI) hS a0 (gW_1 hk0) rfl 5 (by decide) f28 (fun _ h9 => h9) rfl (by decide +kernel) rfl rfl (Nat.le_of_ble_eq_true rfl) dX1_reset_47 (fun H locs hP _ hS => ?_)
        refine g_let hs (fun v_3 ev_3 hs => ?_)
        have hP : va_P D vwCl (gW cy ad v_3 u) H := gPset ((gS_1_5 hk0 0).trans (congrArg (fun z => gW cy ad z u) ev_3.symm)) hP
        refine lv_aload_n hx hb dX1_reset_50 rfl (lv_at hl 0 rfl) ?_
        refine lv_iconst (v := 0) hx hb dX1_reset_51 (by decide) ?_
        refine va_put (D := D) (ci := 1) (v := .int 0) (ty := .int) (C := RX1) (T := TX1) (N := 8) hx hb hts iX1 tyX1 tyX1_ok nmX1 hown hK.1 hP (gD hI) hS a0 (gW_1 hk0) rfl 6 (by decide) f32 (fun _ h9 => h9) rfl (by decide +kernel) rfl rfl (Nat.le_of_ble_eq_true rfl) dX1_reset_52 (fun H locs hP _ hS => ?_)
        refine g_let hs (fun v_4 ev_4 hs => ?_)
        have hP : va_P D vwCl (gW cy ad v_4 u) H := gPset ((gS_1_6 hk0 0).trans (congrArg (fun z => gW cy ad z u) ev_4.symm)) hP
        refine lv_aload_n hx hb dX1_reset_55 rfl (lv_at hl 0 rfl) ?_
        refine lv_iconst (v := 0) hx hb dX1_reset_56 (by decide) ?_
        refine va_put (D := D) (ci := 1) (v := .int 0) (ty := .int) (C := RX1) (T := TX1) (N := 8) hx hb hts iX1 tyX1 tyX1_ok nmX1 hown hK.1 hP (gD hI) hS a0 (gW_1 hk0) rfl 7 (by decide) f35 (fun _ h9 => h9) rfl (by decide +kernel) rfl rfl (Nat.le_of_ble_eq_true rfl) dX1_reset_57 (fun H locs hP _ hS => ?_)
        refine g_let hs (fun v_5 ev_5 hs => ?_)
        have hP : va_P D vwCl (gW cy ad v_5 u) H := gPset ((gS_1_7 hk0 0).trans (congrArg (fun z => gW cy ad z u) ev_5.symm)) hP
        exact gRet_v hx hb hr hlocks hK hP hS (g_some hs) dX1_reset_60
      · have hs := g_f hs hc
        refine lv_aload_n hx hb dX1_reset_8 rfl (lv_at hl 0 rfl) ?_
        refine va_get (D := D) (ci := 1) (v := .ref (ad (a0 + 1))) (C := RX1) (T := TX1) (N := 8) hx hb hts iX1 hown hK.1 hP a0 (gW_1 hk0) rfl 0 (by decide) f11 (fun _ h9 => h9) rfl dX1_reset_9 ?_
        refine lv_iload_n hx hb dX1_reset_12 rfl (lv_at hl 1 rfl) ?_
        refine lv_iconst (v := (-1)) hx hb dX1_reset_13 (by decide) ?_
        refine g_chk hs (fun hc hs => ?_)
        refine va_iast hx hb hK.1 hP (gD hI) hS (a0 + 1) 0 (gW_11 (kd_1_1 hk0)) rfl hc dX1_reset_14 (fun H locs hP _ hS => ?_)
        refine g_let hs (fun v_6 ev_6 hs => ?_)
        have hP : va_P D vwCl (gW cy ad v_6 u) H := gPset ((gS_11 (kd_1_1 hk0) w1.toNatClampNeg ((-1))).trans (congrArg (fun z => gW cy ad z u) ev_6.symm)) hP
        refine lv_aload_n hx hb dX1_reset_15 rfl (lv_at hl 0 rfl) ?_
        refine va_get (D := D) (ci := 1) (v := .ref (ad (a0 + 2))) (C := RX1) (T := TX1) (N := 8) hx hb hts iX1 hown hK.1 hP a0 (gW_1 hk0) rfl 1 (by decide) f15 (fun _ h9 => h9) rfl dX1_reset_16 ?_
        refine lv_iload_n hx hb dX1_reset_19 rfl (lv_at hl 1 rfl) ?_
        refine lv_iconst (v := (-1)) hx hb dX1_reset_20 (by decide) ?_
        refine g_chk hs (fun hc hs => ?_)
        refine va_iast hx hb hK.1 hP (gD hI) hS (a0 + 2) 0 (gW_11 (kd_1_2 hk0)) rfl hc dX1_reset_21 (fun H locs hP _ hS => ?_)
        refine g_let hs (fun v_7 ev_7 hs => ?_)
        have hP : va_P D vwCl (gW cy ad v_7 u) H := gPset ((gS_11 (kd_1_2 hk0) w1.toNatClampNeg ((-1))).trans (congrArg (fun z => gW cy ad z u) ev_7.symm)) hP
        refine lv_aload_n hx hb dX1_reset_22 rfl (lv_at hl 0 rfl) ?_
        refine va_get (D := D) (ci := 1) (v := .ref (ad (a0 + 3))) (C := RX1) (T := TX1) (N := 8) hx hb hts iX1 hown hK.1 hP a0 (gW_1 hk0) rfl 2 (by decide) f18 (fun _ h9 => h9) rfl dX1_reset_23 ?_
        refine lv_iload_n hx hb dX1_reset_26 rfl (lv_at hl 1 rfl) ?_
        refine lv_iconst (v := 0) hx hb dX1_reset_27 (by decide) ?_
        refine g_chk hs (fun hc hs => ?_)
        refine va_iast hx hb hK.1 hP (gD hI) hS (a0 + 3) 0 (gW_11 (kd_1_3 hk0)) rfl hc dX1_reset_28 (fun H locs hP _ hS => ?_)
        refine g_let hs (fun v_8 ev_8 hs => ?_)
        have hP : va_P D vwCl (gW cy ad v_8 u) H := gPset ((gS_11 (kd_1_3 hk0) w1.toNatClampNeg 0).trans (congrArg (fun z => gW cy ad z u) ev_8.symm)) hP
        refine lv_iinc (v := w1 + 1) (lv' := [(1, .int (w1 + 1)), (0, .ref (ad a0))]) hx hb dX1_reset_29 hl (k := 1) rfl rfl (by decide) rfl (fun ls hl => ?_)
        refine lv_goto (tgt := 2) hx hb dX1_reset_32 (by decide) ?_
        exact ih v_8 (w1 + 1) _ _ _ hP hS (lv_sub hl [1, 0] rfl) hs
  unfold sX1_reset at hs
  refine lv_iconst (v := 0) hx hb dX1_reset_0 (by decide) ?_
  refine lv_istore_n (lv' := [(1, .int 0), (0, .ref (ad a0))]) hx hb dX1_reset_1 rfl hl (by decide) rfl (fun ls hl => ?_)
  exact hL_2 n v 0 _ _ _ hP hS (lv_sub hl [1, 0] rfl) hs
set_option maxHeartbeats 4000000 in
set_option maxRecDepth 100000 in
theorem cX1_copyFrom_c (l : Launch) (D : va_G) (cy : Nat → ClassId) (ad : Nat → Nat) (tL z0 : Nat) (hI : gI z0 ad) (n : Nat) (v : gV) (u : Int64) (a0 : Nat) (a1 : Nat) (v1 : gV) (hk0 : kd a0 = 1) (hk1 : kd a1 = 1) (hs : sX1_copyFrom n v a0 a1 = some v1) : Met l yX1_copyFrom wsX1_copyFrom ({ frames := 0, cells := 0, slots := 0, locals := 0 } : Room) (gPc D cy ad tL z0 v u [.ref (ad a0), .ref (ad a1)]) (gQv D cy ad tL z0 v1 u) 0 0 (gA z0) := by
  refine Met.ofW (cc := cX1_copyFrom) (maxL := 3) (ret := none) (by decide) rfl ?_
  intro p e s m args below meth c s₁ B hml hv
  obtain ⟨rfl, hB0⟩ := hv
  have hP : va_P D vwCl (gW cy ad v u) s.heap := hB0.1
  have hK : gK D cy tL z0 s s.heap := hB0.2
  have hx := B.exec
  have hb := B.bytes
  have hr := B.returns
  have hts := atoms_spec (ws := wsX1_copyFrom) B.pre
  have hown : s.vm.findClass RX1 = some m.cls := findClass_of_methodNamed B.named
  have hlocks := B.notSynchronized
  have hS : va_S (gA z0) s.heap s.heap [] := va_S.rf
  have hl := lv_entry ([.ref (ad a0), .ref (ad a1)]) (n := 3) (Nat.le_of_ble_eq_true rfl)
  rw [lg_entry_eq]
  generalize (lg_sl ([.ref (ad a0), .ref (ad a1)]) ++ List.replicate (3 - (lg_sl ([.ref (ad a0), .ref (ad a1)])).length) Slot.unset).toArray = ls at hl ⊢
  have hl : lv_has ls 3 [(0, .ref (ad a0)), (1, .ref (ad a1))] := hl
  have iX1 := (show ∀ w ∈ u_ws RX1 TX1 8, w ∈ wsX1_copyFrom by decide +kernel)
  have f21 := hts (.fieldLink RX1 21 "AdventureParser$Command" "verb" "I") (by decide +kernel)
  have f25 := hts (.fieldLink RX1 25 "AdventureParser$Command" "form" "I") (by decide +kernel)
  have f28 := hts (.fieldLink RX1 28 "AdventureParser$Command" "targetIsSingle" "Z") (by decide +kernel)
  have f32 := hts (.fieldLink RX1 32 "AdventureParser$Command" "listed" "I") (by decide +kernel)
  have f35 := hts (.fieldLink RX1 35 "AdventureParser$Command" "slot" "I") (by decide +kernel)
  have f11 := hts (.fieldLink RX1 11 "AdventureParser$Command" "nouns" "[I") (by decide +kernel)
  have f15 := hts (.fieldLink RX1 15 "AdventureParser$Command" "adjectives" "[I") (by decide +kernel)
  have f18 := hts (.fieldLink RX1 18 "AdventureParser$Command" "chosen" "[I") (by decide +kernel)
  clear hB0
  have hL_2 : ∀ (k : Nat), ∀ (v : gV) (w2 : Int32) (H : Heap) (locs : List Loc) (ls : Array Slot), va_P D vwCl (gW cy ad v u) H → va_S (gA z0) s.heap H locs → lv_has ls 3 [(0, .ref (ad a0)), (1, .ref (ad a1)), (2, .int w2)] → sX1_copyFrom_2 n a0 a1 k v w2 = some v1 → W p l e (headSpec wsX1_copyFrom ({ frames := 0, cells := 0, slots := 0, locals := 0 } : Room)).room s m ([.ref (ad a0), .ref (ad a1)] : List Value).toArray below meth c H locs 0 0 (MQ below (gQv D cy ad tL z0 v1 u) ([.ref (ad a0), .ref (ad a1)] : List Value).toArray s 0 0 (gA z0)) (F0 m 2 ls []) := by
    intro k
    induction k with
    | zero =>
      intro v w2 H locs ls hP hS hl hs
      exact g_none hs
    | succ k ih =>
      intro v w2 H locs ls hP hS hl hs
      rw [sX1_copyFrom_2] at hs
      refine lv_iload_n hx hb dX1_copyFrom_2 rfl (lv_at hl 2 rfl) ?_
      refine lv_bipush (v := 8) hx hb dX1_copyFrom_3 (by decide) ?_
      refine lv_icmp_ge (tgt := 50) hx hb dX1_copyFrom_5 (by decide) (fun hc => ?_) (fun hc => ?_)
      · have hs := g_t hs hc
        refine lv_aload_n hx hb dX1_copyFrom_50 rfl (lv_at hl 0 rfl) ?_
        refine lv_aload_n hx hb dX1_copyFrom_51 rfl (lv_at hl 1 rfl) ?_
        refine va_get (D := D) (ci := 1) (v := .int (v a1 3)) (C := RX1) (T := TX1) (N := 8) hx hb hts iX1 hown hK.1 hP a1 (gW_1 hk1) rfl 3 (by decide) f21 (fun _ h9 => h9) rfl dX1_copyFrom_52 ?_
        refine va_put (D := D) (ci := 1) (v := .int (v a1 3)) (ty := .int) (C := RX1) (T := TX1) (N := 8) hx hb hts iX1 tyX1 tyX1_ok nmX1 hown hK.1 hP (gD hI) hS a0 (gW_1 hk0) rfl 3 (by decide) f21 (fun _ h9 => h9) rfl (by decide +kernel) rfl rfl (Nat.le_of_ble_eq_true rfl) dX1_copyFrom_55 (fun H locs hP _ hS => ?_)
        refine g_let hs (fun v_1 ev_1 hs => ?_)
        have hP : va_P D vwCl (gW cy ad v_1 u) H := gPset ((gS_1_3 hk0 (v a1 3)).trans (congrArg (fun z => gW cy ad z u) ev_1.symm)) hP
        refine lv_aload_n hx hb dX1_copyFrom_58 rfl (lv_at hl 0 rfl) ?_
        refine lv_aload_n hx hb dX1_copyFrom_59 rfl (lv_at hl 1 rfl) ?_
        refine va_get (D := D) (ci := 1) (v := .int (v_1 a1 4)) (C := RX1) (T := TX1) (N := 8) hx hb hts iX1 hown hK.1 hP a1 (gW_1 hk1) rfl 4 (by decide) f25 (fun _ h9 => h9) rfl dX1_copyFrom_60 ?_
        refine va_put (D := D) (ci := 1) (v := .int (v_1 a1 4)) (ty := .int) (C := RX1) (T := TX1) (N := 8) hx hb hts iX1 tyX1 tyX1_ok nmX1 hown hK.1 hP (gD hI) hS a0 (gW_1 hk0) rfl 4 (by decide) f25 (fun _ h9 => h9) rfl (by decide +kernel) rfl rfl (Nat.le_of_ble_eq_true rfl) dX1_copyFrom_63 (fun H locs hP _ hS => ?_)
        refine g_let hs (fun v_2 ev_2 hs => ?_)
        have hP : va_P D vwCl (gW cy ad v_2 u) H := gPset ((gS_1_4 hk0 (v_1 a1 4)).trans (congrArg (fun z => gW cy ad z u) ev_2.symm)) hP
        refine lv_aload_n hx hb dX1_copyFrom_66 rfl (lv_at hl 0 rfl) ?_
        refine lv_aload_n hx hb dX1_copyFrom_67 rfl (lv_at hl 1 rfl) ?_
        refine va_get (D := D) (ci := 1) (v := .int (v_2 a1 5)) (C := RX1) (T := TX1) (N := 8) hx hb hts iX1 hown hK.1 hP a1 (gW_1 hk1) rfl 5 (by decide) f28 (fun _ h9 => h9) rfl dX1_copyFrom_68 ?_
        refine g_chk hs (fun hc hs => ?_)
        refine va_put (D := D) (ci := 1) (v := .int (v_2 a1 5)) (ty := .boolean) (C := RX1) (T := TX1) (N := 8) hx hb hts iX1 tyX1 tyX1_ok nmX1 hown hK.1 hP (gD hI) hS a0 (gW_1 hk0) rfl 5 (by decide) f28 (fun _ h9 => h9) rfl (by decide +kernel) (g_nz hc) (g_fz hc) (Nat.le_of_ble_eq_true rfl) dX1_copyFrom_71 (fun H locs hP _ hS => ?_)
        refine g_let hs (fun v_3 ev_3 hs => ?_)
        have hP : va_P D vwCl (gW cy ad v_3 u) H := gPset ((gS_1_5 hk0 (v_2 a1 5)).trans (congrArg (fun z => gW cy ad z u) ev_3.symm)) hP
        refine lv_aload_n hx hb dX1_copyFrom_74 rfl (lv_at hl 0 rfl) ?_
        refine lv_aload_n hx hb dX1_copyFrom_75 rfl (lv_at hl 1 rfl) ?_
        refine va_get (D := D) (ci := 1) (v := .int (v_3 a1 6)) (C := RX1) (T := TX1) (N := 8) hx hb hts iX1 hown hK.1 hP a1 (gW_1 hk1) rfl 6 (by decide) f32 (fun _ h9 => h9) rfl dX1_copyFrom_76 ?_
        refine va_put (D := D) (ci := 1) (v := .int (v_3 a1 6)) (ty := .int) (C := RX1) (T := TX1) (N := 8) hx hb hts iX1 tyX1 tyX1_ok nmX1 hown hK.1 hP (gD hI) hS a0 (gW_1 hk0) rfl 6 (by decide) f32 (fun _ h9 => h9) rfl (by decide +kernel) rfl rfl (Nat.le_of_ble_eq_true rfl) dX1_copyFrom_79 (fun H locs hP _ hS => ?_)
        refine g_let hs (fun v_4 ev_4 hs => ?_)
        have hP : va_P D vwCl (gW cy ad v_4 u) H := gPset ((gS_1_6 hk0 (v_3 a1 6)).trans (congrArg (fun z => gW cy ad z u) ev_4.symm)) hP
        refine lv_aload_n hx hb dX1_copyFrom_82 rfl (lv_at hl 0 rfl) ?_
        refine lv_aload_n hx hb dX1_copyFrom_83 rfl (lv_at hl 1 rfl) ?_
        refine va_get (D := D) (ci := 1) (v := .int (v_4 a1 7)) (C := RX1) (T := TX1) (N := 8) hx hb hts iX1 hown hK.1 hP a1 (gW_1 hk1) rfl 7 (by decide) f35 (fun _ h9 => h9) rfl dX1_copyFrom_84 ?_
        refine va_put (D := D) (ci := 1) (v := .int (v_4 a1 7)) (ty := .int) (C := RX1) (T := TX1) (N := 8) hx hb hts iX1 tyX1 tyX1_ok nmX1 hown hK.1 hP (gD hI) hS a0 (gW_1 hk0) rfl 7 (by decide) f35 (fun _ h9 => h9) rfl (by decide +kernel) rfl rfl (Nat.le_of_ble_eq_true rfl) dX1_copyFrom_87 (fun H locs hP _ hS => ?_)
        refine g_let hs (fun v_5 ev_5 hs => ?_)
        have hP : va_P D vwCl (gW cy ad v_5 u) H := gPset ((gS_1_7 hk0 (v_4 a1 7)).trans (congrArg (fun z => gW cy ad z u) ev_5.symm)) hP
        exact gRet_v hx hb hr hlocks hK hP hS (g_some hs) dX1_copyFrom_90
      · have hs := g_f hs hc
        refine lv_aload_n hx hb dX1_copyFrom_8 rfl (lv_at hl 0 rfl) ?_
        refine va_get (D := D) (ci := 1) (v := .ref (ad (a0 + 1))) (C := RX1) (T := TX1) (N := 8) hx hb hts iX1 hown hK.1 hP a0 (gW_1 hk0) rfl 0 (by decide) f11 (fun _ h9 => h9) rfl dX1_copyFrom_9 ?_
        refine lv_iload_n hx hb dX1_copyFrom_12 rfl (lv_at hl 2 rfl) ?_
        refine lv_aload_n hx hb dX1_copyFrom_13 rfl (lv_at hl 1 rfl) ?_
        refine va_get (D := D) (ci := 1) (v := .ref (ad (a1 + 1))) (C := RX1) (T := TX1) (N := 8) hx hb hts iX1 hown hK.1 hP a1 (gW_1 hk1) rfl 0 (by decide) f11 (fun _ h9 => h9) rfl dX1_copyFrom_14 ?_
        refine lv_iload_n hx hb dX1_copyFrom_17 rfl (lv_at hl 2 rfl) ?_
        refine g_chk hs (fun hc hs => ?_)
        refine va_iald hx hb hK.1 hP (a1 + 1) 0 (gW_11 (kd_1_1 hk1)) rfl hc dX1_copyFrom_18 ?_
        refine g_chk hs (fun hc hs => ?_)
        refine va_iast hx hb hK.1 hP (gD hI) hS (a0 + 1) 0 (gW_11 (kd_1_1 hk0)) rfl hc dX1_copyFrom_19 (fun H locs hP _ hS => ?_)
        refine g_let hs (fun v_6 ev_6 hs => ?_)
        have hP : va_P D vwCl (gW cy ad v_6 u) H := gPset ((gS_11 (kd_1_1 hk0) w2.toNatClampNeg (v (a1 + 1) w2.toNatClampNeg)).trans (congrArg (fun z => gW cy ad z u) ev_6.symm)) hP
        refine lv_aload_n hx hb dX1_copyFrom_20 rfl (lv_at hl 0 rfl) ?_
        refine va_get (D := D) (ci := 1) (v := .ref (ad (a0 + 2))) (C := RX1) (T := TX1) (N := 8) hx hb hts iX1 hown hK.1 hP a0 (gW_1 hk0) rfl 1 (by decide) f15 (fun _ h9 => h9) rfl dX1_copyFrom_21 ?_
        refine lv_iload_n hx hb dX1_copyFrom_24 rfl (lv_at hl 2 rfl) ?_
        refine lv_aload_n hx hb dX1_copyFrom_25 rfl (lv_at hl 1 rfl) ?_
        refine va_get (D := D) (ci := 1) (v := .ref (ad (a1 + 2))) (C := RX1) (T := TX1) (N := 8) hx hb hts iX1 hown hK.1 hP a1 (gW_1 hk1) rfl 1 (by decide) f15 (fun _ h9 => h9) rfl dX1_copyFrom_26 ?_
        refine lv_iload_n hx hb dX1_copyFrom_29 rfl (lv_at hl 2 rfl) ?_
        refine g_chk hs (fun hc hs => ?_)
        refine va_iald hx hb hK.1 hP (a1 + 2) 0 (gW_11 (kd_1_2 hk1)) rfl hc dX1_copyFrom_30 ?_
        refine g_chk hs (fun hc hs => ?_)
        refine va_iast hx hb hK.1 hP (gD hI) hS (a0 + 2) 0 (gW_11 (kd_1_2 hk0)) rfl hc dX1_copyFrom_31 (fun H locs hP _ hS => ?_)
        refine g_let hs (fun v_7 ev_7 hs => ?_)
        have hP : va_P D vwCl (gW cy ad v_7 u) H := gPset ((gS_11 (kd_1_2 hk0) w2.toNatClampNeg (v_6 (a1 + 2) w2.toNatClampNeg)).trans (congrArg (fun z => gW cy ad z u) ev_7.symm)) hP
        refine lv_aload_n hx hb dX1_copyFrom_32 rfl (lv_at hl 0 rfl) ?_
        refine va_get (D := D) (ci := 1) (v := .ref (ad (a0 + 3))) (C := RX1) (T := TX1) (N := 8) hx hb hts iX1 hown hK.1 hP a0 (gW_1 hk0) rfl 2 (by decide) f18 (fun _ h9 => h9) rfl dX1_copyFrom_33 ?_
        refine lv_iload_n hx hb dX1_copyFrom_36 rfl (lv_at hl 2 rfl) ?_
        refine lv_aload_n hx hb dX1_copyFrom_37 rfl (lv_at hl 1 rfl) ?_
        refine va_get (D := D) (ci := 1) (v := .ref (ad (a1 + 3))) (C := RX1) (T := TX1) (N := 8) hx hb hts iX1 hown hK.1 hP a1 (gW_1 hk1) rfl 2 (by decide) f18 (fun _ h9 => h9) rfl dX1_copyFrom_38 ?_
        refine lv_iload_n hx hb dX1_copyFrom_41 rfl (lv_at hl 2 rfl) ?_
        refine g_chk hs (fun hc hs => ?_)
        refine va_iald hx hb hK.1 hP (a1 + 3) 0 (gW_11 (kd_1_3 hk1)) rfl hc dX1_copyFrom_42 ?_
        refine g_chk hs (fun hc hs => ?_)
        refine va_iast hx hb hK.1 hP (gD hI) hS (a0 + 3) 0 (gW_11 (kd_1_3 hk0)) rfl hc dX1_copyFrom_43 (fun H locs hP _ hS => ?_)
        refine g_let hs (fun v_8 ev_8 hs => ?_)
        have hP : va_P D vwCl (gW cy ad v_8 u) H := gPset ((gS_11 (kd_1_3 hk0) w2.toNatClampNeg (v_7 (a1 + 3) w2.toNatClampNeg)).trans (congrArg (fun z => gW cy ad z u) ev_8.symm)) hP
        refine lv_iinc (v := w2 + 1) (lv' := [(2, .int (w2 + 1)), (0, .ref (ad a0)), (1, .ref (ad a1))]) hx hb dX1_copyFrom_44 hl (k := 2) rfl rfl (by decide) rfl (fun ls hl => ?_)
        refine lv_goto (tgt := 2) hx hb dX1_copyFrom_47 (by decide) ?_
        exact ih v_8 (w2 + 1) _ _ _ hP hS (lv_sub hl [1, 2, 0] rfl) hs
  unfold sX1_copyFrom at hs
  refine lv_iconst (v := 0) hx hb dX1_copyFrom_0 (by decide) ?_
  refine lv_istore_n (lv' := [(2, .int 0), (0, .ref (ad a0)), (1, .ref (ad a1))]) hx hb dX1_copyFrom_1 rfl hl (by decide) rfl (fun ls hl => ?_)
  exact hL_2 n v 0 _ _ _ hP hS (lv_sub hl [1, 2, 0] rfl) hs
set_option maxHeartbeats 4000000 in
set_option maxRecDepth 100000 in
theorem cX1_isAnswer_c (l : Launch) (D : va_G) (cy : Nat → ClassId) (ad : Nat → Nat) (tL z0 : Nat) (hI : gI z0 ad) (v : gV) (u : Int64) (a0 : Nat) (r0 : Int32) (hk0 : kd a0 = 1) (hs : sX1_isAnswer v a0 = some r0) : Met l yX1_isAnswer wsX1_isAnswer ({ frames := 0, cells := 0, slots := 0, locals := 0 } : Room) (gPc D cy ad tL z0 v u [.ref (ad a0)]) (gQi D cy ad tL z0 v u r0) 0 0 (gA z0) := by
  refine Met.ofW (cc := cX1_isAnswer) (maxL := 1) (ret := (some .boolean)) (by decide) rfl ?_
  intro p e s m args below meth c s₁ B hml hv
  obtain ⟨rfl, hB0⟩ := hv
  have hP : va_P D vwCl (gW cy ad v u) s.heap := hB0.1
  have hK : gK D cy tL z0 s s.heap := hB0.2
  have hx := B.exec
  have hb := B.bytes
  have hr := B.returns
  have hts := atoms_spec (ws := wsX1_isAnswer) B.pre
  have hown : s.vm.findClass RX1 = some m.cls := findClass_of_methodNamed B.named
  have hlocks := B.notSynchronized
  have hS : va_S (gA z0) s.heap s.heap [] := va_S.rf
  have hl := lv_entry ([.ref (ad a0)]) (n := 1) (Nat.le_of_ble_eq_true rfl)
  rw [lg_entry_eq]
  generalize (lg_sl ([.ref (ad a0)]) ++ List.replicate (1 - (lg_sl ([.ref (ad a0)])).length) Slot.unset).toArray = ls at hl ⊢
  have hl : lv_has ls 1 [(0, .ref (ad a0))] := hl
  have iX1 := (show ∀ w ∈ u_ws RX1 TX1 8, w ∈ wsX1_isAnswer by decide +kernel)
  have f21 := hts (.fieldLink RX1 21 "AdventureParser$Command" "verb" "I") (by decide +kernel)
  clear hB0
  unfold sX1_isAnswer at hs
  refine lv_aload_n hx hb dX1_isAnswer_0 rfl (lv_at hl 0 rfl) ?_
  refine va_get (D := D) (ci := 1) (v := .int (v a0 3)) (C := RX1) (T := TX1) (N := 8) hx hb hts iX1 hown hK.1 hP a0 (gW_1 hk0) rfl 3 (by decide) f21 (fun _ h9 => h9) rfl dX1_isAnswer_1 ?_
  refine lv_iconst (v := (-1)) hx hb dX1_isAnswer_4 (by decide) ?_
  refine lv_icmp_ne (tgt := 12) hx hb dX1_isAnswer_5 (by decide) (fun hc => ?_) (fun hc => ?_)
  · have hs := g_f hs hc
    refine lv_iconst (v := 0) hx hb dX1_isAnswer_12 (by decide) ?_
    exact gRet_z hx hb hr hlocks rfl hK hP hS ⟨g_some hs, rfl⟩ dX1_isAnswer_13
  · have hs := g_t hs hc
    refine lv_iconst (v := 1) hx hb dX1_isAnswer_8 (by decide) ?_
    refine lv_goto (tgt := 13) hx hb dX1_isAnswer_9 (by decide) ?_
    exact gRet_z hx hb hr hlocks rfl hK hP hS ⟨g_some hs, rfl⟩ dX1_isAnswer_13
set_option maxHeartbeats 4000000 in
set_option maxRecDepth 100000 in
theorem cX1_hasSlot_c (l : Launch) (D : va_G) (cy : Nat → ClassId) (ad : Nat → Nat) (tL z0 : Nat) (hI : gI z0 ad) (v : gV) (u : Int64) (a0 : Nat) (x1 : Int32) (r0 : Int32) (hk0 : kd a0 = 1) (hs : sX1_hasSlot a0 x1 = some r0) : Met l yX1_hasSlot wsX1_hasSlot ({ frames := 0, cells := 0, slots := 0, locals := 0 } : Room) (gPc D cy ad tL z0 v u [.ref (ad a0), .int x1]) (gQi D cy ad tL z0 v u r0) 0 0 (gA z0) := by
  refine Met.ofW (cc := cX1_hasSlot) (maxL := 2) (ret := (some .boolean)) (by decide) rfl ?_
  intro p e s m args below meth c s₁ B hml hv
  obtain ⟨rfl, hB0⟩ := hv
  have hP : va_P D vwCl (gW cy ad v u) s.heap := hB0.1
  have hK : gK D cy tL z0 s s.heap := hB0.2
  have hx := B.exec
  have hb := B.bytes
  have hr := B.returns
  have hts := atoms_spec (ws := wsX1_hasSlot) B.pre
  have hown : s.vm.findClass RX1 = some m.cls := findClass_of_methodNamed B.named
  have hlocks := B.notSynchronized
  have hS : va_S (gA z0) s.heap s.heap [] := va_S.rf
  have hl := lv_entry ([.ref (ad a0), .int x1]) (n := 2) (Nat.le_of_ble_eq_true rfl)
  rw [lg_entry_eq]
  generalize (lg_sl ([.ref (ad a0), .int x1]) ++ List.replicate (2 - (lg_sl ([.ref (ad a0), .int x1])).length) Slot.unset).toArray = ls at hl ⊢
  have hl : lv_has ls 2 [(0, .ref (ad a0)), (1, .int x1)] := hl
  clear hB0
  unfold sX1_hasSlot at hs
  refine lv_iload_n hx hb dX1_hasSlot_0 rfl (lv_at hl 1 rfl) ?_
  refine lv_if_lt (tgt := 14) hx hb dX1_hasSlot_1 (by decide) (fun hc => ?_) (fun hc => ?_)
  · have hs := g_t hs hc
    refine lv_iconst (v := 0) hx hb dX1_hasSlot_14 (by decide) ?_
    exact gRet_z hx hb hr hlocks rfl hK hP hS ⟨g_some hs, rfl⟩ dX1_hasSlot_15
  · have hs := g_f hs hc
    refine lv_iload_n hx hb dX1_hasSlot_4 rfl (lv_at hl 1 rfl) ?_
    refine lv_bipush (v := 8) hx hb dX1_hasSlot_5 (by decide) ?_
    refine lv_icmp_ge (tgt := 14) hx hb dX1_hasSlot_7 (by decide) (fun hc => ?_) (fun hc => ?_)
    · have hs := g_t hs hc
      refine lv_iconst (v := 0) hx hb dX1_hasSlot_14 (by decide) ?_
      exact gRet_z hx hb hr hlocks rfl hK hP hS ⟨g_some hs, rfl⟩ dX1_hasSlot_15
    · have hs := g_f hs hc
      refine lv_iconst (v := 1) hx hb dX1_hasSlot_10 (by decide) ?_
      refine lv_goto (tgt := 15) hx hb dX1_hasSlot_11 (by decide) ?_
      exact gRet_z hx hb hr hlocks rfl hK hP hS ⟨g_some hs, rfl⟩ dX1_hasSlot_15
set_option maxHeartbeats 4000000 in
set_option maxRecDepth 100000 in
theorem cX1_choose_c (l : Launch) (D : va_G) (cy : Nat → ClassId) (ad : Nat → Nat) (tL z0 : Nat) (hI : gI z0 ad) (v : gV) (u : Int64) (a0 : Nat) (x1 : Int32) (x2 : Int32) (v1 : gV) (hk0 : kd a0 = 1) (hs : sX1_choose v a0 x1 x2 = some v1) : Met l yX1_choose wsX1_choose ({ frames := 1, cells := 0, slots := 0, locals := 21 } : Room) (gPc D cy ad tL z0 v u [.ref (ad a0), .int x1, .int x2]) (gQv D cy ad tL z0 v1 u) 0 0 (gA z0) := by
  refine Met.ofW (cc := cX1_choose) (maxL := 3) (ret := none) (by decide) rfl ?_
  intro p e s m args below meth c s₁ B hml hv
  obtain ⟨rfl, hB0⟩ := hv
  have hP : va_P D vwCl (gW cy ad v u) s.heap := hB0.1
  have hK : gK D cy tL z0 s s.heap := hB0.2
  have hx := B.exec
  have hb := B.bytes
  have hr := B.returns
  have hts := atoms_spec (ws := wsX1_choose) B.pre
  have hown : s.vm.findClass RX1 = some m.cls := findClass_of_methodNamed B.named
  have hlocks := B.notSynchronized
  have hS : va_S (gA z0) s.heap s.heap [] := va_S.rf
  have hl := lv_entry ([.ref (ad a0), .int x1, .int x2]) (n := 3) (Nat.le_of_ble_eq_true rfl)
  rw [lg_entry_eq]
  generalize (lg_sl ([.ref (ad a0), .int x1, .int x2]) ++ List.replicate (3 - (lg_sl ([.ref (ad a0), .int x1, .int x2])).length) Slot.unset).toArray = ls at hl ⊢
  have hl : lv_has ls 3 [(0, .ref (ad a0)), (1, .int x1), (2, .int x2)] := hl
  have iX1 := (show ∀ w ∈ u_ws RX1 TX1 8, w ∈ wsX1_choose by decide +kernel)
  have f18 := hts (.fieldLink RX1 18 "AdventureParser$Command" "chosen" "[I") (by decide +kernel)
  clear hB0
  unfold sX1_choose at hs
  refine lv_aload_n hx hb dX1_choose_0 rfl (lv_at hl 0 rfl) ?_
  refine lv_iload_n hx hb dX1_choose_1 rfl (lv_at hl 1 rfl) ?_
  refine g_bind hs (fun q_1 hq_1 hs => ?_)
  refine gCV_i (As := [.int x1]) (rest := []) ⟨hx, hb, hml, hown, hts⟩ (cX1_hasSlot_c l D cy ad tL z0 hI v u a0 x1 q_1 hk0 hq_1) (cwV 1 hts gX1_choose_X1_hasSlot rfl rfl rfl (by decide +kernel) ⟨Nat.le_of_ble_eq_true rfl, Nat.le_of_ble_eq_true rfl⟩) hK hP hS (va_recv hK.1 hP (ci := 1) (q0 := a0) rfl (gW_1 hk0)) hl.1 rfl rfl (Nat.le_of_ble_eq_true rfl) dX1_choose_2 ⟨Nat.zero_le _, Nat.zero_le _⟩ (fun H locs hP hS => ?_)
  refine lv_if_eq (tgt := 15) hx hb dX1_choose_5 (by decide) (fun hc => ?_) (fun hc => ?_)
  · have hs := g_t hs hc
    exact gRet_v hx hb hr hlocks hK hP hS (g_some hs) dX1_choose_15
  · have hs := g_f hs hc
    refine lv_aload_n hx hb dX1_choose_8 rfl (lv_at hl 0 rfl) ?_
    refine va_get (D := D) (ci := 1) (v := .ref (ad (a0 + 3))) (C := RX1) (T := TX1) (N := 8) hx hb hts iX1 hown hK.1 hP a0 (gW_1 hk0) rfl 2 (by decide) f18 (fun _ h9 => h9) rfl dX1_choose_9 ?_
    refine lv_iload_n hx hb dX1_choose_12 rfl (lv_at hl 1 rfl) ?_
    refine lv_iload_n hx hb dX1_choose_13 rfl (lv_at hl 2 rfl) ?_
    refine g_chk hs (fun hc hs => ?_)
    refine va_iast hx hb hK.1 hP (gD hI) hS (a0 + 3) 0 (gW_11 (kd_1_3 hk0)) rfl hc dX1_choose_14 (fun H locs hP _ hS => ?_)
    refine g_let hs (fun v_2 ev_2 hs => ?_)
    have hP : va_P D vwCl (gW cy ad v_2 u) H := gPset ((gS_11 (kd_1_3 hk0) x1.toNatClampNeg x2).trans (congrArg (fun z => gW cy ad z u) ev_2.symm)) hP
    exact gRet_v hx hb hr hlocks hK hP hS (g_some hs) dX1_choose_15
set_option maxHeartbeats 4000000 in
set_option maxRecDepth 100000 in
theorem cX5_isVerbWord_c (l : Launch) (D : va_G) (cy : Nat → ClassId) (ad : Nat → Nat) (tL z0 : Nat) (hI : gI z0 ad) (v : gV) (u : Int64) (x0 : Int32) (r0 : Int32) (hs : sX5_isVerbWord x0 = some r0) : Met l yX5_isVerbWord wsX5_isVerbWord ({ frames := 0, cells := 0, slots := 0, locals := 0 } : Room) (gPc D cy ad tL z0 v u [.int x0]) (gQi D cy ad tL z0 v u r0) 0 0 (gA z0) := by
  refine Met.ofW (cc := cX5_isVerbWord) (maxL := 1) (ret := (some .boolean)) (by decide) rfl ?_
  intro p e s m args below meth c s₁ B hml hv
  obtain ⟨rfl, hB0⟩ := hv
  have hP : va_P D vwCl (gW cy ad v u) s.heap := hB0.1
  have hK : gK D cy tL z0 s s.heap := hB0.2
  have hx := B.exec
  have hb := B.bytes
  have hr := B.returns
  have hts := atoms_spec (ws := wsX5_isVerbWord) B.pre
  have hown : s.vm.findClass RX5 = some m.cls := findClass_of_methodNamed B.named
  have hlocks := B.notSynchronized
  have hS : va_S (gA z0) s.heap s.heap [] := va_S.rf
  have hl := lv_entry ([.int x0]) (n := 1) (Nat.le_of_ble_eq_true rfl)
  rw [lg_entry_eq]
  generalize (lg_sl ([.int x0]) ++ List.replicate (1 - (lg_sl ([.int x0])).length) Slot.unset).toArray = ls at hl ⊢
  have hl : lv_has ls 1 [(0, .int x0)] := hl
  clear hB0
  unfold sX5_isVerbWord at hs
  refine lv_iload_n hx hb dX5_isVerbWord_0 rfl (lv_at hl 0 rfl) ?_
  refine lv_bipush (v := 10) hx hb dX5_isVerbWord_1 (by decide) ?_
  refine lv_icmp_lt (tgt := 16) hx hb dX5_isVerbWord_3 (by decide) (fun hc => ?_) (fun hc => ?_)
  · have hs := g_t hs hc
    refine lv_iconst (v := 0) hx hb dX5_isVerbWord_16 (by decide) ?_
    exact gRet_z hx hb hr hlocks rfl hK hP hS ⟨g_some hs, rfl⟩ dX5_isVerbWord_17
  · have hs := g_f hs hc
    refine lv_iload_n hx hb dX5_isVerbWord_6 rfl (lv_at hl 0 rfl) ?_
    refine lv_bipush (v := 17) hx hb dX5_isVerbWord_7 (by decide) ?_
    refine lv_icmp_ge (tgt := 16) hx hb dX5_isVerbWord_9 (by decide) (fun hc => ?_) (fun hc => ?_)
    · have hs := g_t hs hc
      refine lv_iconst (v := 0) hx hb dX5_isVerbWord_16 (by decide) ?_
      exact gRet_z hx hb hr hlocks rfl hK hP hS ⟨g_some hs, rfl⟩ dX5_isVerbWord_17
    · have hs := g_f hs hc
      refine lv_iconst (v := 1) hx hb dX5_isVerbWord_12 (by decide) ?_
      refine lv_goto (tgt := 17) hx hb dX5_isVerbWord_13 (by decide) ?_
      exact gRet_z hx hb hr hlocks rfl hK hP hS ⟨g_some hs, rfl⟩ dX5_isVerbWord_17
set_option maxHeartbeats 4000000 in
set_option maxRecDepth 100000 in
theorem cX5_isNoun_c (l : Launch) (D : va_G) (cy : Nat → ClassId) (ad : Nat → Nat) (tL z0 : Nat) (hI : gI z0 ad) (v : gV) (u : Int64) (x0 : Int32) (r0 : Int32) (hs : sX5_isNoun x0 = some r0) : Met l yX5_isNoun wsX5_isNoun ({ frames := 0, cells := 0, slots := 0, locals := 0 } : Room) (gPc D cy ad tL z0 v u [.int x0]) (gQi D cy ad tL z0 v u r0) 0 0 (gA z0) := by
  refine Met.ofW (cc := cX5_isNoun) (maxL := 1) (ret := (some .boolean)) (by decide) rfl ?_
  intro p e s m args below meth c s₁ B hml hv
  obtain ⟨rfl, hB0⟩ := hv
  have hP : va_P D vwCl (gW cy ad v u) s.heap := hB0.1
  have hK : gK D cy tL z0 s s.heap := hB0.2
  have hx := B.exec
  have hb := B.bytes
  have hr := B.returns
  have hts := atoms_spec (ws := wsX5_isNoun) B.pre
  have hown : s.vm.findClass RX5 = some m.cls := findClass_of_methodNamed B.named
  have hlocks := B.notSynchronized
  have hS : va_S (gA z0) s.heap s.heap [] := va_S.rf
  have hl := lv_entry ([.int x0]) (n := 1) (Nat.le_of_ble_eq_true rfl)
  rw [lg_entry_eq]
  generalize (lg_sl ([.int x0]) ++ List.replicate (1 - (lg_sl ([.int x0])).length) Slot.unset).toArray = ls at hl ⊢
  have hl : lv_has ls 1 [(0, .int x0)] := hl
  clear hB0
  unfold sX5_isNoun at hs
  refine lv_iload_n hx hb dX5_isNoun_0 rfl (lv_at hl 0 rfl) ?_
  refine lv_if_lt (tgt := 14) hx hb dX5_isNoun_1 (by decide) (fun hc => ?_) (fun hc => ?_)
  · have hs := g_t hs hc
    refine lv_iconst (v := 0) hx hb dX5_isNoun_14 (by decide) ?_
    exact gRet_z hx hb hr hlocks rfl hK hP hS ⟨g_some hs, rfl⟩ dX5_isNoun_15
  · have hs := g_f hs hc
    refine lv_iload_n hx hb dX5_isNoun_4 rfl (lv_at hl 0 rfl) ?_
    refine lv_bipush (v := 6) hx hb dX5_isNoun_5 (by decide) ?_
    refine lv_icmp_ge (tgt := 14) hx hb dX5_isNoun_7 (by decide) (fun hc => ?_) (fun hc => ?_)
    · have hs := g_t hs hc
      refine lv_iconst (v := 0) hx hb dX5_isNoun_14 (by decide) ?_
      exact gRet_z hx hb hr hlocks rfl hK hP hS ⟨g_some hs, rfl⟩ dX5_isNoun_15
    · have hs := g_f hs hc
      refine lv_iconst (v := 1) hx hb dX5_isNoun_10 (by decide) ?_
      refine lv_goto (tgt := 15) hx hb dX5_isNoun_11 (by decide) ?_
      exact gRet_z hx hb hr hlocks rfl hK hP hS ⟨g_some hs, rfl⟩ dX5_isNoun_15
set_option maxHeartbeats 4000000 in
set_option maxRecDepth 100000 in
theorem cX1_noteNoun_c (l : Launch) (D : va_G) (cy : Nat → ClassId) (ad : Nat → Nat) (tL z0 : Nat) (hI : gI z0 ad) (v : gV) (u : Int64) (a0 : Nat) (x1 : Int32) (v1 : gV) (hk0 : kd a0 = 1) (hs : sX1_noteNoun v a0 x1 = some v1) : Met l yX1_noteNoun wsX1_noteNoun ({ frames := 1, cells := 0, slots := 0, locals := 21 } : Room) (gPc D cy ad tL z0 v u [.ref (ad a0), .int x1]) (gQv D cy ad tL z0 v1 u) 0 0 (gA z0) := by
  refine Met.ofW (cc := cX1_noteNoun) (maxL := 2) (ret := none) (by decide) rfl ?_
  intro p e s m args below meth c s₁ B hml hv
  obtain ⟨rfl, hB0⟩ := hv
  have hP : va_P D vwCl (gW cy ad v u) s.heap := hB0.1
  have hK : gK D cy tL z0 s s.heap := hB0.2
  have hx := B.exec
  have hb := B.bytes
  have hr := B.returns
  have hts := atoms_spec (ws := wsX1_noteNoun) B.pre
  have hown : s.vm.findClass RX1 = some m.cls := findClass_of_methodNamed B.named
  have hlocks := B.notSynchronized
  have hS : va_S (gA z0) s.heap s.heap [] := va_S.rf
  have hl := lv_entry ([.ref (ad a0), .int x1]) (n := 2) (Nat.le_of_ble_eq_true rfl)
  rw [lg_entry_eq]
  generalize (lg_sl ([.ref (ad a0), .int x1]) ++ List.replicate (2 - (lg_sl ([.ref (ad a0), .int x1])).length) Slot.unset).toArray = ls at hl ⊢
  have hl : lv_has ls 2 [(0, .ref (ad a0)), (1, .int x1)] := hl
  have iX1 := (show ∀ w ∈ u_ws RX1 TX1 8, w ∈ wsX1_noteNoun by decide +kernel)
  have f35 := hts (.fieldLink RX1 35 "AdventureParser$Command" "slot" "I") (by decide +kernel)
  have f11 := hts (.fieldLink RX1 11 "AdventureParser$Command" "nouns" "[I") (by decide +kernel)
  have f32 := hts (.fieldLink RX1 32 "AdventureParser$Command" "listed" "I") (by decide +kernel)
  clear hB0
  unfold sX1_noteNoun at hs
  refine lv_aload_n hx hb dX1_noteNoun_0 rfl (lv_at hl 0 rfl) ?_
  refine lv_aload_n hx hb dX1_noteNoun_1 rfl (lv_at hl 0 rfl) ?_
  refine va_get (D := D) (ci := 1) (v := .int (v a0 7)) (C := RX1) (T := TX1) (N := 8) hx hb hts iX1 hown hK.1 hP a0 (gW_1 hk0) rfl 7 (by decide) f35 (fun _ h9 => h9) rfl dX1_noteNoun_2 ?_
  refine g_bind hs (fun q_1 hq_1 hs => ?_)
  refine gCV_i (As := [.int (v a0 7)]) (rest := []) ⟨hx, hb, hml, hown, hts⟩ (cX1_hasSlot_c l D cy ad tL z0 hI v u a0 (v a0 7) q_1 hk0 hq_1) (cwV 1 hts gX1_noteNoun_X1_hasSlot rfl rfl rfl (by decide +kernel) ⟨Nat.le_of_ble_eq_true rfl, Nat.le_of_ble_eq_true rfl⟩) hK hP hS (va_recv hK.1 hP (ci := 1) (q0 := a0) rfl (gW_1 hk0)) hl.1 rfl rfl (Nat.le_of_ble_eq_true rfl) dX1_noteNoun_5 ⟨Nat.zero_le _, Nat.zero_le _⟩ (fun H locs hP hS => ?_)
  refine lv_if_eq (tgt := 36) hx hb dX1_noteNoun_8 (by decide) (fun hc => ?_) (fun hc => ?_)
  · have hs := g_t hs hc
    exact gRet_v hx hb hr hlocks hK hP hS (g_some hs) dX1_noteNoun_36
  · have hs := g_f hs hc
    refine lv_aload_n hx hb dX1_noteNoun_11 rfl (lv_at hl 0 rfl) ?_
    refine va_get (D := D) (ci := 1) (v := .ref (ad (a0 + 1))) (C := RX1) (T := TX1) (N := 8) hx hb hts iX1 hown hK.1 hP a0 (gW_1 hk0) rfl 0 (by decide) f11 (fun _ h9 => h9) rfl dX1_noteNoun_12 ?_
    refine lv_aload_n hx hb dX1_noteNoun_15 rfl (lv_at hl 0 rfl) ?_
    refine va_get (D := D) (ci := 1) (v := .int (v a0 7)) (C := RX1) (T := TX1) (N := 8) hx hb hts iX1 hown hK.1 hP a0 (gW_1 hk0) rfl 7 (by decide) f35 (fun _ h9 => h9) rfl dX1_noteNoun_16 ?_
    refine lv_iload_n hx hb dX1_noteNoun_19 rfl (lv_at hl 1 rfl) ?_
    refine g_chk hs (fun hc hs => ?_)
    refine va_iast hx hb hK.1 hP (gD hI) hS (a0 + 1) 0 (gW_11 (kd_1_1 hk0)) rfl hc dX1_noteNoun_20 (fun H locs hP _ hS => ?_)
    refine g_let hs (fun v_2 ev_2 hs => ?_)
    have hP : va_P D vwCl (gW cy ad v_2 u) H := gPset ((gS_11 (kd_1_1 hk0) (v a0 7).toNatClampNeg x1).trans (congrArg (fun z => gW cy ad z u) ev_2.symm)) hP
    refine lv_aload_n hx hb dX1_noteNoun_21 rfl (lv_at hl 0 rfl) ?_
    refine lv_aload_n hx hb dX1_noteNoun_22 rfl (lv_at hl 0 rfl) ?_
    refine va_get (D := D) (ci := 1) (v := .int (v_2 a0 6)) (C := RX1) (T := TX1) (N := 8) hx hb hts iX1 hown hK.1 hP a0 (gW_1 hk0) rfl 6 (by decide) f32 (fun _ h9 => h9) rfl dX1_noteNoun_23 ?_
    refine lv_aload_n hx hb dX1_noteNoun_26 rfl (lv_at hl 0 rfl) ?_
    refine va_get (D := D) (ci := 1) (v := .int (v_2 a0 7)) (C := RX1) (T := TX1) (N := 8) hx hb hts iX1 hown hK.1 hP a0 (gW_1 hk0) rfl 7 (by decide) f35 (fun _ h9 => h9) rfl dX1_noteNoun_27 ?_
    refine va_mmax hx hb (hml.trans hl.1.symm) hown (hts (Cond.methodLink RX1 61 Lib.Math.max.name) (by decide +kernel)) (hts (.static Lib.Math.max.name) (by decide +kernel)) (hts (.initialized "java/lang/Math") (by decide +kernel)) (hts (.code Lib.Math.max.name Lib.Math.max.code 2 (some .int)) (by decide +kernel)) (Nat.le_of_ble_eq_true rfl) (Nat.le_of_ble_eq_true rfl) (Nat.zero_le _) (Nat.zero_le _) dX1_noteNoun_30 ?_
    refine va_put (D := D) (ci := 1) (v := .int (if v_2 a0 6 < v_2 a0 7 then v_2 a0 7 else v_2 a0 6)) (ty := .int) (C := RX1) (T := TX1) (N := 8) hx hb hts iX1 tyX1 tyX1_ok nmX1 hown hK.1 hP (gD hI) hS a0 (gW_1 hk0) rfl 6 (by decide) f32 (fun _ h9 => h9) rfl (by decide +kernel) rfl rfl (Nat.le_of_ble_eq_true rfl) dX1_noteNoun_33 (fun H locs hP _ hS => ?_)
    refine g_let hs (fun v_4 ev_4 hs => ?_)
    have hP : va_P D vwCl (gW cy ad v_4 u) H := gPset ((gS_1_6 hk0 (if v_2 a0 6 < v_2 a0 7 then v_2 a0 7 else v_2 a0 6)).trans (congrArg (fun z => gW cy ad z u) ev_4.symm)) hP
    exact gRet_v hx hb hr hlocks hK hP hS (g_some hs) dX1_noteNoun_36
set_option maxHeartbeats 4000000 in
set_option maxRecDepth 100000 in
theorem cX5_isAdjectiveWord_c (l : Launch) (D : va_G) (cy : Nat → ClassId) (ad : Nat → Nat) (tL z0 : Nat) (hI : gI z0 ad) (v : gV) (u : Int64) (x0 : Int32) (r0 : Int32) (hs : sX5_isAdjectiveWord x0 = some r0) : Met l yX5_isAdjectiveWord wsX5_isAdjectiveWord ({ frames := 0, cells := 0, slots := 0, locals := 0 } : Room) (gPc D cy ad tL z0 v u [.int x0]) (gQi D cy ad tL z0 v u r0) 0 0 (gA z0) := by
  refine Met.ofW (cc := cX5_isAdjectiveWord) (maxL := 1) (ret := (some .boolean)) (by decide) rfl ?_
  intro p e s m args below meth c s₁ B hml hv
  obtain ⟨rfl, hB0⟩ := hv
  have hP : va_P D vwCl (gW cy ad v u) s.heap := hB0.1
  have hK : gK D cy tL z0 s s.heap := hB0.2
  have hx := B.exec
  have hb := B.bytes
  have hr := B.returns
  have hts := atoms_spec (ws := wsX5_isAdjectiveWord) B.pre
  have hown : s.vm.findClass RX5 = some m.cls := findClass_of_methodNamed B.named
  have hlocks := B.notSynchronized
  have hS : va_S (gA z0) s.heap s.heap [] := va_S.rf
  have hl := lv_entry ([.int x0]) (n := 1) (Nat.le_of_ble_eq_true rfl)
  rw [lg_entry_eq]
  generalize (lg_sl ([.int x0]) ++ List.replicate (1 - (lg_sl ([.int x0])).length) Slot.unset).toArray = ls at hl ⊢
  have hl : lv_has ls 1 [(0, .int x0)] := hl
  clear hB0
  unfold sX5_isAdjectiveWord at hs
  refine lv_iload_n hx hb dX5_isAdjectiveWord_0 rfl (lv_at hl 0 rfl) ?_
  refine lv_bipush (v := 6) hx hb dX5_isAdjectiveWord_1 (by decide) ?_
  refine lv_icmp_lt (tgt := 16) hx hb dX5_isAdjectiveWord_3 (by decide) (fun hc => ?_) (fun hc => ?_)
  · have hs := g_t hs hc
    refine lv_iconst (v := 0) hx hb dX5_isAdjectiveWord_16 (by decide) ?_
    exact gRet_z hx hb hr hlocks rfl hK hP hS ⟨g_some hs, rfl⟩ dX5_isAdjectiveWord_17
  · have hs := g_f hs hc
    refine lv_iload_n hx hb dX5_isAdjectiveWord_6 rfl (lv_at hl 0 rfl) ?_
    refine lv_bipush (v := 10) hx hb dX5_isAdjectiveWord_7 (by decide) ?_
    refine lv_icmp_ge (tgt := 16) hx hb dX5_isAdjectiveWord_9 (by decide) (fun hc => ?_) (fun hc => ?_)
    · have hs := g_t hs hc
      refine lv_iconst (v := 0) hx hb dX5_isAdjectiveWord_16 (by decide) ?_
      exact gRet_z hx hb hr hlocks rfl hK hP hS ⟨g_some hs, rfl⟩ dX5_isAdjectiveWord_17
    · have hs := g_f hs hc
      refine lv_iconst (v := 1) hx hb dX5_isAdjectiveWord_12 (by decide) ?_
      refine lv_goto (tgt := 17) hx hb dX5_isAdjectiveWord_13 (by decide) ?_
      exact gRet_z hx hb hr hlocks rfl hK hP hS ⟨g_some hs, rfl⟩ dX5_isAdjectiveWord_17
set_option maxHeartbeats 4000000 in
set_option maxRecDepth 100000 in
theorem cX1_noteAdjective_c (l : Launch) (D : va_G) (cy : Nat → ClassId) (ad : Nat → Nat) (tL z0 : Nat) (hI : gI z0 ad) (v : gV) (u : Int64) (a0 : Nat) (x1 : Int32) (v1 : gV) (hk0 : kd a0 = 1) (hs : sX1_noteAdjective v a0 x1 = some v1) : Met l yX1_noteAdjective wsX1_noteAdjective ({ frames := 1, cells := 0, slots := 0, locals := 21 } : Room) (gPc D cy ad tL z0 v u [.ref (ad a0), .int x1]) (gQv D cy ad tL z0 v1 u) 0 0 (gA z0) := by
  refine Met.ofW (cc := cX1_noteAdjective) (maxL := 2) (ret := none) (by decide) rfl ?_
  intro p e s m args below meth c s₁ B hml hv
  obtain ⟨rfl, hB0⟩ := hv
  have hP : va_P D vwCl (gW cy ad v u) s.heap := hB0.1
  have hK : gK D cy tL z0 s s.heap := hB0.2
  have hx := B.exec
  have hb := B.bytes
  have hr := B.returns
  have hts := atoms_spec (ws := wsX1_noteAdjective) B.pre
  have hown : s.vm.findClass RX1 = some m.cls := findClass_of_methodNamed B.named
  have hlocks := B.notSynchronized
  have hS : va_S (gA z0) s.heap s.heap [] := va_S.rf
  have hl := lv_entry ([.ref (ad a0), .int x1]) (n := 2) (Nat.le_of_ble_eq_true rfl)
  rw [lg_entry_eq]
  generalize (lg_sl ([.ref (ad a0), .int x1]) ++ List.replicate (2 - (lg_sl ([.ref (ad a0), .int x1])).length) Slot.unset).toArray = ls at hl ⊢
  have hl : lv_has ls 2 [(0, .ref (ad a0)), (1, .int x1)] := hl
  have iX1 := (show ∀ w ∈ u_ws RX1 TX1 8, w ∈ wsX1_noteAdjective by decide +kernel)
  have f35 := hts (.fieldLink RX1 35 "AdventureParser$Command" "slot" "I") (by decide +kernel)
  have f15 := hts (.fieldLink RX1 15 "AdventureParser$Command" "adjectives" "[I") (by decide +kernel)
  clear hB0
  unfold sX1_noteAdjective at hs
  refine lv_aload_n hx hb dX1_noteAdjective_0 rfl (lv_at hl 0 rfl) ?_
  refine lv_aload_n hx hb dX1_noteAdjective_1 rfl (lv_at hl 0 rfl) ?_
  refine va_get (D := D) (ci := 1) (v := .int (v a0 7)) (C := RX1) (T := TX1) (N := 8) hx hb hts iX1 hown hK.1 hP a0 (gW_1 hk0) rfl 7 (by decide) f35 (fun _ h9 => h9) rfl dX1_noteAdjective_2 ?_
  refine g_bind hs (fun q_1 hq_1 hs => ?_)
  refine gCV_i (As := [.int (v a0 7)]) (rest := []) ⟨hx, hb, hml, hown, hts⟩ (cX1_hasSlot_c l D cy ad tL z0 hI v u a0 (v a0 7) q_1 hk0 hq_1) (cwV 1 hts gX1_noteAdjective_X1_hasSlot rfl rfl rfl (by decide +kernel) ⟨Nat.le_of_ble_eq_true rfl, Nat.le_of_ble_eq_true rfl⟩) hK hP hS (va_recv hK.1 hP (ci := 1) (q0 := a0) rfl (gW_1 hk0)) hl.1 rfl rfl (Nat.le_of_ble_eq_true rfl) dX1_noteAdjective_5 ⟨Nat.zero_le _, Nat.zero_le _⟩ (fun H locs hP hS => ?_)
  refine lv_if_eq (tgt := 21) hx hb dX1_noteAdjective_8 (by decide) (fun hc => ?_) (fun hc => ?_)
  · have hs := g_t hs hc
    exact gRet_v hx hb hr hlocks hK hP hS (g_some hs) dX1_noteAdjective_21
  · have hs := g_f hs hc
    refine lv_aload_n hx hb dX1_noteAdjective_11 rfl (lv_at hl 0 rfl) ?_
    refine va_get (D := D) (ci := 1) (v := .ref (ad (a0 + 2))) (C := RX1) (T := TX1) (N := 8) hx hb hts iX1 hown hK.1 hP a0 (gW_1 hk0) rfl 1 (by decide) f15 (fun _ h9 => h9) rfl dX1_noteAdjective_12 ?_
    refine lv_aload_n hx hb dX1_noteAdjective_15 rfl (lv_at hl 0 rfl) ?_
    refine va_get (D := D) (ci := 1) (v := .int (v a0 7)) (C := RX1) (T := TX1) (N := 8) hx hb hts iX1 hown hK.1 hP a0 (gW_1 hk0) rfl 7 (by decide) f35 (fun _ h9 => h9) rfl dX1_noteAdjective_16 ?_
    refine lv_iload_n hx hb dX1_noteAdjective_19 rfl (lv_at hl 1 rfl) ?_
    refine g_chk hs (fun hc hs => ?_)
    refine va_iast hx hb hK.1 hP (gD hI) hS (a0 + 2) 0 (gW_11 (kd_1_2 hk0)) rfl hc dX1_noteAdjective_20 (fun H locs hP _ hS => ?_)
    refine g_let hs (fun v_2 ev_2 hs => ?_)
    have hP : va_P D vwCl (gW cy ad v_2 u) H := gPset ((gS_11 (kd_1_2 hk0) (v a0 7).toNatClampNeg x1).trans (congrArg (fun z => gW cy ad z u) ev_2.symm)) hP
    exact gRet_v hx hb hr hlocks hK hP hS (g_some hs) dX1_noteAdjective_21
set_option maxHeartbeats 4000000 in
set_option maxRecDepth 100000 in
theorem cX1_noteOther_c (l : Launch) (D : va_G) (cy : Nat → ClassId) (ad : Nat → Nat) (tL z0 : Nat) (hI : gI z0 ad) (v : gV) (u : Int64) (a0 : Nat) (x1 : Int32) (v1 : gV) (hk0 : kd a0 = 1) (hs : sX1_noteOther v a0 x1 = some v1) : Met l yX1_noteOther wsX1_noteOther ({ frames := 0, cells := 0, slots := 0, locals := 0 } : Room) (gPc D cy ad tL z0 v u [.ref (ad a0), .int x1]) (gQv D cy ad tL z0 v1 u) 0 0 (gA z0) := by
  refine Met.ofW (cc := cX1_noteOther) (maxL := 2) (ret := none) (by decide) rfl ?_
  intro p e s m args below meth c s₁ B hml hv
  obtain ⟨rfl, hB0⟩ := hv
  have hP : va_P D vwCl (gW cy ad v u) s.heap := hB0.1
  have hK : gK D cy tL z0 s s.heap := hB0.2
  have hx := B.exec
  have hb := B.bytes
  have hr := B.returns
  have hts := atoms_spec (ws := wsX1_noteOther) B.pre
  have hown : s.vm.findClass RX1 = some m.cls := findClass_of_methodNamed B.named
  have hlocks := B.notSynchronized
  have hS : va_S (gA z0) s.heap s.heap [] := va_S.rf
  have hl := lv_entry ([.ref (ad a0), .int x1]) (n := 2) (Nat.le_of_ble_eq_true rfl)
  rw [lg_entry_eq]
  generalize (lg_sl ([.ref (ad a0), .int x1]) ++ List.replicate (2 - (lg_sl ([.ref (ad a0), .int x1])).length) Slot.unset).toArray = ls at hl ⊢
  have hl : lv_has ls 2 [(0, .ref (ad a0)), (1, .int x1)] := hl
  have iX1 := (show ∀ w ∈ u_ws RX1 TX1 8, w ∈ wsX1_noteOther by decide +kernel)
  have f25 := hts (.fieldLink RX1 25 "AdventureParser$Command" "form" "I") (by decide +kernel)
  have f35 := hts (.fieldLink RX1 35 "AdventureParser$Command" "slot" "I") (by decide +kernel)
  have f28 := hts (.fieldLink RX1 28 "AdventureParser$Command" "targetIsSingle" "Z") (by decide +kernel)
  clear hB0
  unfold sX1_noteOther at hs
  refine lv_iload_n hx hb dX1_noteOther_0 rfl (lv_at hl 1 rfl) ?_
  by_cases hc1_17 : x1 = 17
  · have hs := g_t hs hc1_17
    refine lv_tableIn (off := 43) (tgt := 44) hx hb dX1_noteOther_1 (by rw [hc1_17]; decide) (by rw [hc1_17]; decide) (by rw [hc1_17]; rfl) (by decide) ?_
    refine lv_aload_n hx hb dX1_noteOther_44 rfl (lv_at hl 0 rfl) ?_
    refine lv_iconst (v := 1) hx hb dX1_noteOther_45 (by decide) ?_
    refine va_put (D := D) (ci := 1) (v := .int 1) (ty := .int) (C := RX1) (T := TX1) (N := 8) hx hb hts iX1 tyX1 tyX1_ok nmX1 hown hK.1 hP (gD hI) hS a0 (gW_1 hk0) rfl 4 (by decide) f25 (fun _ h9 => h9) rfl (by decide +kernel) rfl rfl (Nat.le_of_ble_eq_true rfl) dX1_noteOther_46 (fun H locs hP _ hS => ?_)
    refine g_let hs (fun v_1 ev_1 hs => ?_)
    have hP : va_P D vwCl (gW cy ad v_1 u) H := gPset ((gS_1_4 hk0 1).trans (congrArg (fun z => gW cy ad z u) ev_1.symm)) hP
    refine lv_goto (tgt := 104) hx hb dX1_noteOther_49 (by decide) ?_
    exact gRet_v hx hb hr hlocks hK hP hS (g_some hs) dX1_noteOther_104
  have hs := g_f hs hc1_17
  by_cases hc1_18 : x1 = 18
  · have hs := g_t hs hc1_18
    refine lv_tableIn (off := 103) (tgt := 104) hx hb dX1_noteOther_1 (by rw [hc1_18]; decide) (by rw [hc1_18]; decide) (by rw [hc1_18]; rfl) (by decide) ?_
    exact gRet_v hx hb hr hlocks hK hP hS (g_some hs) dX1_noteOther_104
  have hs := g_f hs hc1_18
  by_cases hc1_19 : x1 = 19
  · have hs := g_t hs hc1_19
    refine lv_tableIn (off := 51) (tgt := 52) hx hb dX1_noteOther_1 (by rw [hc1_19]; decide) (by rw [hc1_19]; decide) (by rw [hc1_19]; rfl) (by decide) ?_
    refine lv_aload_n hx hb dX1_noteOther_52 rfl (lv_at hl 0 rfl) ?_
    refine lv_dup hx hb dX1_noteOther_53 rfl ?_
    refine va_get (D := D) (ci := 1) (v := .int (v a0 7)) (C := RX1) (T := TX1) (N := 8) hx hb hts iX1 hown hK.1 hP a0 (gW_1 hk0) rfl 7 (by decide) f35 (fun _ h9 => h9) rfl dX1_noteOther_54 ?_
    refine lv_iconst (v := 1) hx hb dX1_noteOther_57 (by decide) ?_
    refine lv_iadd hx hb dX1_noteOther_58 ?_
    refine va_put (D := D) (ci := 1) (v := .int ((v a0 7) + 1)) (ty := .int) (C := RX1) (T := TX1) (N := 8) hx hb hts iX1 tyX1 tyX1_ok nmX1 hown hK.1 hP (gD hI) hS a0 (gW_1 hk0) rfl 7 (by decide) f35 (fun _ h9 => h9) rfl (by decide +kernel) rfl rfl (Nat.le_of_ble_eq_true rfl) dX1_noteOther_59 (fun H locs hP _ hS => ?_)
    refine g_let hs (fun v_2 ev_2 hs => ?_)
    have hP : va_P D vwCl (gW cy ad v_2 u) H := gPset ((gS_1_7 hk0 ((v a0 7) + 1)).trans (congrArg (fun z => gW cy ad z u) ev_2.symm)) hP
    refine lv_goto (tgt := 104) hx hb dX1_noteOther_62 (by decide) ?_
    exact gRet_v hx hb hr hlocks hK hP hS (g_some hs) dX1_noteOther_104
  have hs := g_f hs hc1_19
  by_cases hc1_20 : x1 = 20
  · have hs := g_t hs hc1_20
    refine lv_tableIn (off := 64) (tgt := 65) hx hb dX1_noteOther_1 (by rw [hc1_20]; decide) (by rw [hc1_20]; decide) (by rw [hc1_20]; rfl) (by decide) ?_
    refine lv_aload_n hx hb dX1_noteOther_65 rfl (lv_at hl 0 rfl) ?_
    refine lv_iconst (v := 0) hx hb dX1_noteOther_66 (by decide) ?_
    refine va_put (D := D) (ci := 1) (v := .int 0) (ty := .int) (C := RX1) (T := TX1) (N := 8) hx hb hts iX1 tyX1 tyX1_ok nmX1 hown hK.1 hP (gD hI) hS a0 (gW_1 hk0) rfl 7 (by decide) f35 (fun _ h9 => h9) rfl (by decide +kernel) rfl rfl (Nat.le_of_ble_eq_true rfl) dX1_noteOther_67 (fun H locs hP _ hS => ?_)
    refine g_let hs (fun v_3 ev_3 hs => ?_)
    have hP : va_P D vwCl (gW cy ad v_3 u) H := gPset ((gS_1_7 hk0 0).trans (congrArg (fun z => gW cy ad z u) ev_3.symm)) hP
    refine lv_goto (tgt := 104) hx hb dX1_noteOther_70 (by decide) ?_
    exact gRet_v hx hb hr hlocks hK hP hS (g_some hs) dX1_noteOther_104
  have hs := g_f hs hc1_20
  by_cases hc1_21 : x1 = 21
  · have hs := g_t hs hc1_21
    refine lv_tableIn (off := 103) (tgt := 104) hx hb dX1_noteOther_1 (by rw [hc1_21]; decide) (by rw [hc1_21]; decide) (by rw [hc1_21]; rfl) (by decide) ?_
    exact gRet_v hx hb hr hlocks hK hP hS (g_some hs) dX1_noteOther_104
  have hs := g_f hs hc1_21
  by_cases hc1_22 : x1 = 22
  · have hs := g_t hs hc1_22
    refine lv_tableIn (off := 72) (tgt := 73) hx hb dX1_noteOther_1 (by rw [hc1_22]; decide) (by rw [hc1_22]; decide) (by rw [hc1_22]; rfl) (by decide) ?_
    refine lv_aload_n hx hb dX1_noteOther_73 rfl (lv_at hl 0 rfl) ?_
    refine va_get (D := D) (ci := 1) (v := .int (v a0 7)) (C := RX1) (T := TX1) (N := 8) hx hb hts iX1 hown hK.1 hP a0 (gW_1 hk0) rfl 7 (by decide) f35 (fun _ h9 => h9) rfl dX1_noteOther_74 ?_
    refine lv_if_ne (tgt := 88) hx hb dX1_noteOther_77 (by decide) (fun hc => ?_) (fun hc => ?_)
    · have hs := g_f hs hc
      refine lv_aload_n hx hb dX1_noteOther_88 rfl (lv_at hl 0 rfl) ?_
      refine lv_iconst (v := 2) hx hb dX1_noteOther_89 (by decide) ?_
      refine va_put (D := D) (ci := 1) (v := .int 2) (ty := .int) (C := RX1) (T := TX1) (N := 8) hx hb hts iX1 tyX1 tyX1_ok nmX1 hown hK.1 hP (gD hI) hS a0 (gW_1 hk0) rfl 4 (by decide) f25 (fun _ h9 => h9) rfl (by decide +kernel) rfl rfl (Nat.le_of_ble_eq_true rfl) dX1_noteOther_90 (fun H locs hP _ hS => ?_)
      refine g_let hs (fun v_4 ev_4 hs => ?_)
      have hP : va_P D vwCl (gW cy ad v_4 u) H := gPset ((gS_1_4 hk0 2).trans (congrArg (fun z => gW cy ad z u) ev_4.symm)) hP
      refine lv_goto (tgt := 104) hx hb dX1_noteOther_93 (by decide) ?_
      exact gRet_v hx hb hr hlocks hK hP hS (g_some hs) dX1_noteOther_104
    · have hs := g_t hs hc
      refine lv_aload_n hx hb dX1_noteOther_80 rfl (lv_at hl 0 rfl) ?_
      refine lv_iconst (v := 1) hx hb dX1_noteOther_81 (by decide) ?_
      refine va_put (D := D) (ci := 1) (v := .int 1) (ty := .boolean) (C := RX1) (T := TX1) (N := 8) hx hb hts iX1 tyX1 tyX1_ok nmX1 hown hK.1 hP (gD hI) hS a0 (gW_1 hk0) rfl 5 (by decide) f28 (fun _ h9 => h9) rfl (by decide +kernel) rfl rfl (Nat.le_of_ble_eq_true rfl) dX1_noteOther_82 (fun H locs hP _ hS => ?_)
      refine g_let hs (fun v_5 ev_5 hs => ?_)
      have hP : va_P D vwCl (gW cy ad v_5 u) H := gPset ((gS_1_5 hk0 1).trans (congrArg (fun z => gW cy ad z u) ev_5.symm)) hP
      refine lv_goto (tgt := 104) hx hb dX1_noteOther_85 (by decide) ?_
      exact gRet_v hx hb hr hlocks hK hP hS (g_some hs) dX1_noteOther_104
  have hs := g_f hs hc1_22
  by_cases hc1_23 : x1 = 23
  · have hs := g_t hs hc1_23
    refine lv_tableIn (off := 95) (tgt := 96) hx hb dX1_noteOther_1 (by rw [hc1_23]; decide) (by rw [hc1_23]; decide) (by rw [hc1_23]; rfl) (by decide) ?_
    refine lv_aload_n hx hb dX1_noteOther_96 rfl (lv_at hl 0 rfl) ?_
    refine lv_iconst (v := 3) hx hb dX1_noteOther_97 (by decide) ?_
    refine va_put (D := D) (ci := 1) (v := .int 3) (ty := .int) (C := RX1) (T := TX1) (N := 8) hx hb hts iX1 tyX1 tyX1_ok nmX1 hown hK.1 hP (gD hI) hS a0 (gW_1 hk0) rfl 4 (by decide) f25 (fun _ h9 => h9) rfl (by decide +kernel) rfl rfl (Nat.le_of_ble_eq_true rfl) dX1_noteOther_98 (fun H locs hP _ hS => ?_)
    refine g_let hs (fun v_6 ev_6 hs => ?_)
    have hP : va_P D vwCl (gW cy ad v_6 u) H := gPset ((gS_1_4 hk0 3).trans (congrArg (fun z => gW cy ad z u) ev_6.symm)) hP
    refine lv_goto (tgt := 104) hx hb dX1_noteOther_101 (by decide) ?_
    exact gRet_v hx hb hr hlocks hK hP hS (g_some hs) dX1_noteOther_104
  have hs := g_f hs hc1_23
  refine lv_tableOut (tgt := 104) hx hb dX1_noteOther_1 (by have n17 := g_neI (i := 17) hc1_17 (by decide); have n18 := g_neI (i := 18) hc1_18 (by decide); have n19 := g_neI (i := 19) hc1_19 (by decide); have n20 := g_neI (i := 20) hc1_20 (by decide); have n21 := g_neI (i := 21) hc1_21 (by decide); have n22 := g_neI (i := 22) hc1_22 (by decide); have n23 := g_neI (i := 23) hc1_23 (by decide); omega) (by decide) ?_
  exact gRet_v hx hb hr hlocks hK hP hS (g_some hs) dX1_noteOther_104
set_option maxHeartbeats 4000000 in
set_option maxRecDepth 100000 in
theorem cX1_note_c (l : Launch) (D : va_G) (cy : Nat → ClassId) (ad : Nat → Nat) (tL z0 : Nat) (hI : gI z0 ad) (v : gV) (u : Int64) (a0 : Nat) (x1 : Int32) (v1 : gV) (hk0 : kd a0 = 1) (hs : sX1_note v a0 x1 = some v1) : Met l yX1_note wsX1_note ({ frames := 2, cells := 0, slots := 0, locals := 42 } : Room) (gPc D cy ad tL z0 v u [.ref (ad a0), .int x1]) (gQv D cy ad tL z0 v1 u) 0 0 (gA z0) := by
  refine Met.ofW (cc := cX1_note) (maxL := 2) (ret := none) (by decide) rfl ?_
  intro p e s m args below meth c s₁ B hml hv
  obtain ⟨rfl, hB0⟩ := hv
  have hP : va_P D vwCl (gW cy ad v u) s.heap := hB0.1
  have hK : gK D cy tL z0 s s.heap := hB0.2
  have hx := B.exec
  have hb := B.bytes
  have hr := B.returns
  have hts := atoms_spec (ws := wsX1_note) B.pre
  have hown : s.vm.findClass RX1 = some m.cls := findClass_of_methodNamed B.named
  have hlocks := B.notSynchronized
  have hS : va_S (gA z0) s.heap s.heap [] := va_S.rf
  have hl := lv_entry ([.ref (ad a0), .int x1]) (n := 2) (Nat.le_of_ble_eq_true rfl)
  rw [lg_entry_eq]
  generalize (lg_sl ([.ref (ad a0), .int x1]) ++ List.replicate (2 - (lg_sl ([.ref (ad a0), .int x1])).length) Slot.unset).toArray = ls at hl ⊢
  have hl : lv_has ls 2 [(0, .ref (ad a0)), (1, .int x1)] := hl
  have stX5_isVerbWord := hts (.static yX5_isVerbWord) (by decide +kernel)
  have inX5 := hts (.initialized RX5) (by decide +kernel)
  have stX5_isNoun := hts (.static yX5_isNoun) (by decide +kernel)
  have stX5_isAdjectiveWord := hts (.static yX5_isAdjectiveWord) (by decide +kernel)
  have iX1 := (show ∀ w ∈ u_ws RX1 TX1 8, w ∈ wsX1_note by decide +kernel)
  have f21 := hts (.fieldLink RX1 21 "AdventureParser$Command" "verb" "I") (by decide +kernel)
  have f35 := hts (.fieldLink RX1 35 "AdventureParser$Command" "slot" "I") (by decide +kernel)
  clear hB0
  unfold sX1_note at hs
  refine lv_iload_n hx hb dX1_note_0 rfl (lv_at hl 1 rfl) ?_
  refine g_bind hs (fun q_1 hq_1 hs => ?_)
  refine gCN_i (As := [.int x1]) (rest := []) ⟨hx, hb, hml, hown, hts⟩ (cX5_isVerbWord_c l D cy ad tL z0 hI v u x1 q_1 hq_1) (va_cnB (host := RX5) 1 hts gX1_note_X5_isVerbWord_n42 rfl rfl rfl (hK.2.2.2.1 _ (List.mem_of_getElem? (i := 7) rfl)) inX5 (by decide +kernel) ⟨Nat.le_of_ble_eq_true rfl, Nat.le_of_ble_eq_true rfl⟩) stX5_isVerbWord hK hP hS hl.1 rfl rfl (Nat.le_of_ble_eq_true rfl) dX1_note_1 ⟨Nat.zero_le _, Nat.zero_le _⟩ (fun H locs hP hS => ?_)
  refine lv_if_eq (tgt := 23) hx hb dX1_note_4 (by decide) (fun hc => ?_) (fun hc => ?_)
  · have hs := g_t hs hc
    refine lv_iload_n hx hb dX1_note_23 rfl (lv_at hl 1 rfl) ?_
    refine g_bind hs (fun q_2 hq_2 hs => ?_)
    refine gCN_i (As := [.int x1]) (rest := []) ⟨hx, hb, hml, hown, hts⟩ (cX5_isNoun_c l D cy ad tL z0 hI v u x1 q_2 hq_2) (va_cnB (host := RX5) 1 hts gX1_note_X5_isNoun_n45 rfl rfl rfl (hK.2.2.2.1 _ (List.mem_of_getElem? (i := 6) rfl)) inX5 (by decide +kernel) ⟨Nat.le_of_ble_eq_true rfl, Nat.le_of_ble_eq_true rfl⟩) stX5_isNoun hK hP hS hl.1 rfl rfl (Nat.le_of_ble_eq_true rfl) dX1_note_24 ⟨Nat.zero_le _, Nat.zero_le _⟩ (fun H locs hP hS => ?_)
    refine lv_if_eq (tgt := 38) hx hb dX1_note_27 (by decide) (fun hc => ?_) (fun hc => ?_)
    · have hs := g_t hs hc
      refine lv_iload_n hx hb dX1_note_38 rfl (lv_at hl 1 rfl) ?_
      refine g_bind hs (fun q_3 hq_3 hs => ?_)
      refine gCN_i (As := [.int x1]) (rest := []) ⟨hx, hb, hml, hown, hts⟩ (cX5_isAdjectiveWord_c l D cy ad tL z0 hI v u x1 q_3 hq_3) (va_cnB (host := RX5) 1 hts gX1_note_X5_isAdjectiveWord_n52 rfl rfl rfl (hK.2.2.2.1 _ (List.mem_of_getElem? (i := 5) rfl)) inX5 (by decide +kernel) ⟨Nat.le_of_ble_eq_true rfl, Nat.le_of_ble_eq_true rfl⟩) stX5_isAdjectiveWord hK hP hS hl.1 rfl rfl (Nat.le_of_ble_eq_true rfl) dX1_note_39 ⟨Nat.zero_le _, Nat.zero_le _⟩ (fun H locs hP hS => ?_)
      refine lv_if_eq (tgt := 56) hx hb dX1_note_42 (by decide) (fun hc => ?_) (fun hc => ?_)
      · have hs := g_t hs hc
        refine lv_aload_n hx hb dX1_note_56 rfl (lv_at hl 0 rfl) ?_
        refine lv_iload_n hx hb dX1_note_57 rfl (lv_at hl 1 rfl) ?_
        refine g_bind hs (fun q_4 hq_4 hs => ?_)
        refine gCV_v (As := [.int x1]) (rest := []) ⟨hx, hb, hml, hown, hts⟩ (cX1_noteOther_c l D cy ad tL z0 hI v u a0 x1 q_4 hk0 hq_4) (cwV 1 hts gX1_note_X1_noteOther rfl rfl rfl (by decide +kernel) ⟨Nat.le_of_ble_eq_true rfl, Nat.le_of_ble_eq_true rfl⟩) hK hP hS (va_recv hK.1 hP (ci := 1) (q0 := a0) rfl (gW_1 hk0)) hl.1 rfl rfl (Nat.le_of_ble_eq_true rfl) dX1_note_58 ⟨Nat.zero_le _, Nat.zero_le _⟩ (fun H locs hP hS => ?_)
        exact gRet_v hx hb hr hlocks hK hP hS (g_some hs) dX1_note_61
      · have hs := g_f hs hc
        refine lv_aload_n hx hb dX1_note_45 rfl (lv_at hl 0 rfl) ?_
        refine lv_iload_n hx hb dX1_note_46 rfl (lv_at hl 1 rfl) ?_
        refine lv_bipush (v := 6) hx hb dX1_note_47 (by decide) ?_
        refine lv_isub hx hb dX1_note_49 ?_
        refine g_bind hs (fun q_5 hq_5 hs => ?_)
        refine gCV_v (As := [.int (x1 - 6)]) (rest := []) ⟨hx, hb, hml, hown, hts⟩ (cX1_noteAdjective_c l D cy ad tL z0 hI v u a0 (x1 - 6) q_5 hk0 hq_5) (cwV 1 hts gX1_note_X1_noteAdjective rfl rfl rfl (by decide +kernel) ⟨Nat.le_of_ble_eq_true rfl, Nat.le_of_ble_eq_true rfl⟩) hK hP hS (va_recv hK.1 hP (ci := 1) (q0 := a0) rfl (gW_1 hk0)) hl.1 rfl rfl (Nat.le_of_ble_eq_true rfl) dX1_note_50 ⟨Nat.zero_le _, Nat.zero_le _⟩ (fun H locs hP hS => ?_)
        refine lv_goto (tgt := 61) hx hb dX1_note_53 (by decide) ?_
        exact gRet_v hx hb hr hlocks hK hP hS (g_some hs) dX1_note_61
    · have hs := g_f hs hc
      refine lv_aload_n hx hb dX1_note_30 rfl (lv_at hl 0 rfl) ?_
      refine lv_iload_n hx hb dX1_note_31 rfl (lv_at hl 1 rfl) ?_
      refine g_bind hs (fun q_6 hq_6 hs => ?_)
      refine gCV_v (As := [.int x1]) (rest := []) ⟨hx, hb, hml, hown, hts⟩ (cX1_noteNoun_c l D cy ad tL z0 hI v u a0 x1 q_6 hk0 hq_6) (cwV 1 hts gX1_note_X1_noteNoun rfl rfl rfl (by decide +kernel) ⟨Nat.le_of_ble_eq_true rfl, Nat.le_of_ble_eq_true rfl⟩) hK hP hS (va_recv hK.1 hP (ci := 1) (q0 := a0) rfl (gW_1 hk0)) hl.1 rfl rfl (Nat.le_of_ble_eq_true rfl) dX1_note_32 ⟨Nat.zero_le _, Nat.zero_le _⟩ (fun H locs hP hS => ?_)
      refine lv_goto (tgt := 61) hx hb dX1_note_35 (by decide) ?_
      exact gRet_v hx hb hr hlocks hK hP hS (g_some hs) dX1_note_61
  · have hs := g_f hs hc
    refine lv_aload_n hx hb dX1_note_7 rfl (lv_at hl 0 rfl) ?_
    refine lv_iload_n hx hb dX1_note_8 rfl (lv_at hl 1 rfl) ?_
    refine lv_bipush (v := 10) hx hb dX1_note_9 (by decide) ?_
    refine lv_isub hx hb dX1_note_11 ?_
    refine va_put (D := D) (ci := 1) (v := .int (x1 - 10)) (ty := .int) (C := RX1) (T := TX1) (N := 8) hx hb hts iX1 tyX1 tyX1_ok nmX1 hown hK.1 hP (gD hI) hS a0 (gW_1 hk0) rfl 3 (by decide) f21 (fun _ h9 => h9) rfl (by decide +kernel) rfl rfl (Nat.le_of_ble_eq_true rfl) dX1_note_12 (fun H locs hP _ hS => ?_)
    refine g_let hs (fun v_7 ev_7 hs => ?_)
    have hP : va_P D vwCl (gW cy ad v_7 u) H := gPset ((gS_1_3 hk0 (x1 - 10)).trans (congrArg (fun z => gW cy ad z u) ev_7.symm)) hP
    refine lv_aload_n hx hb dX1_note_15 rfl (lv_at hl 0 rfl) ?_
    refine lv_iconst (v := 1) hx hb dX1_note_16 (by decide) ?_
    refine va_put (D := D) (ci := 1) (v := .int 1) (ty := .int) (C := RX1) (T := TX1) (N := 8) hx hb hts iX1 tyX1 tyX1_ok nmX1 hown hK.1 hP (gD hI) hS a0 (gW_1 hk0) rfl 7 (by decide) f35 (fun _ h9 => h9) rfl (by decide +kernel) rfl rfl (Nat.le_of_ble_eq_true rfl) dX1_note_17 (fun H locs hP _ hS => ?_)
    refine g_let hs (fun v_8 ev_8 hs => ?_)
    have hP : va_P D vwCl (gW cy ad v_8 u) H := gPset ((gS_1_7 hk0 1).trans (congrArg (fun z => gW cy ad z u) ev_8.symm)) hP
    refine lv_goto (tgt := 61) hx hb dX1_note_20 (by decide) ?_
    exact gRet_v hx hb hr hlocks hK hP hS (g_some hs) dX1_note_61
set_option maxHeartbeats 4000000 in
set_option maxRecDepth 100000 in
theorem cX2_start_c (l : Launch) (D : va_G) (cy : Nat → ClassId) (ad : Nat → Nat) (tL z0 : Nat) (hI : gI z0 ad) (n : Nat) (v : gV) (u : Int64) (x1 : Int32) (v1 : gV) (hs : sX2_start n v x1 = some v1) : Met l yX2_start wsX2_start ({ frames := 1, cells := 0, slots := 0, locals := 21 } : Room) (gPc D cy ad tL z0 v u [.ref (ad 3), .int x1]) (gQv D cy ad tL z0 v1 u) 0 0 (gA z0) := by
  refine Met.ofW (cc := cX2_start) (maxL := 2) (ret := none) (by decide) rfl ?_
  intro p e s m args below meth c s₁ B hml hv
  obtain ⟨rfl, hB0⟩ := hv
  have hP : va_P D vwCl (gW cy ad v u) s.heap := hB0.1
  have hK : gK D cy tL z0 s s.heap := hB0.2
  have hx := B.exec
  have hb := B.bytes
  have hr := B.returns
  have hts := atoms_spec (ws := wsX2_start) B.pre
  have hown : s.vm.findClass RX2 = some m.cls := findClass_of_methodNamed B.named
  have hlocks := B.notSynchronized
  have hS : va_S (gA z0) s.heap s.heap [] := va_S.rf
  have hl := lv_entry ([.ref (ad 3), .int x1]) (n := 2) (Nat.le_of_ble_eq_true rfl)
  rw [lg_entry_eq]
  generalize (lg_sl ([.ref (ad 3), .int x1]) ++ List.replicate (2 - (lg_sl ([.ref (ad 3), .int x1])).length) Slot.unset).toArray = ls at hl ⊢
  have hl : lv_has ls 2 [(0, .ref (ad 3)), (1, .int x1)] := hl
  have iX2 := (show ∀ w ∈ u_ws RX2 TX2 3, w ∈ wsX2_start by decide +kernel)
  have f12 := hts (.fieldLink RX2 12 "AdventureParser$Reading" "text" "LAdventureParser$Command;") (by decide +kernel)
  have f21 := hts (.fieldLink RX2 21 "AdventureParser$Reading" "position" "I") (by decide +kernel)
  have f25 := hts (.fieldLink RX2 25 "AdventureParser$Reading" "answerPossible" "Z") (by decide +kernel)
  clear hB0
  unfold sX2_start at hs
  refine lv_aload_n hx hb dX2_start_0 rfl (lv_at hl 0 rfl) ?_
  refine va_get (D := D) (ci := 2) (v := .ref (ad 4)) (C := RX2) (T := TX2) (N := 3) hx hb hts iX2 hown hK.1 hP 3 (gW_2 kd3) rfl 0 (by decide) f12 (fun _ h9 => h9) rfl dX2_start_1 ?_
  refine g_bind hs (fun q_1 hq_1 hs => ?_)
  refine gCV_v (As := []) (rest := []) ⟨hx, hb, hml, hown, hts⟩ (cX1_reset_c l D cy ad tL z0 hI n v u 4 q_1 kd4 hq_1) (cwV 0 hts gX2_start_X1_reset rfl rfl rfl (by decide +kernel) ⟨Nat.le_of_ble_eq_true rfl, Nat.le_of_ble_eq_true rfl⟩) hK hP hS (va_recv hK.1 hP (ci := 1) (q0 := 4) rfl (gW_1 kd4)) hl.1 rfl rfl (Nat.le_of_ble_eq_true rfl) dX2_start_4 ⟨Nat.zero_le _, Nat.zero_le _⟩ (fun H locs hP hS => ?_)
  refine lv_aload_n hx hb dX2_start_7 rfl (lv_at hl 0 rfl) ?_
  refine lv_iconst (v := 0) hx hb dX2_start_8 (by decide) ?_
  refine va_put (D := D) (ci := 2) (v := .int 0) (ty := .int) (C := RX2) (T := TX2) (N := 3) hx hb hts iX2 tyX2 tyX2_ok nmX2 hown hK.1 hP (gD hI) hS 3 (gW_2 kd3) rfl 1 (by decide) f21 (fun _ h9 => h9) rfl (by decide +kernel) rfl rfl (Nat.le_of_ble_eq_true rfl) dX2_start_9 (fun H locs hP _ hS => ?_)
  refine g_let hs (fun v_2 ev_2 hs => ?_)
  have hP : va_P D vwCl (gW cy ad v_2 u) H := gPset ((gS_2_1 kd3 0).trans (congrArg (fun z => gW cy ad z u) ev_2.symm)) hP
  refine lv_aload_n hx hb dX2_start_12 rfl (lv_at hl 0 rfl) ?_
  refine lv_iload_n hx hb dX2_start_13 rfl (lv_at hl 1 rfl) ?_
  refine g_chk hs (fun hc hs => ?_)
  refine va_put (D := D) (ci := 2) (v := .int x1) (ty := .boolean) (C := RX2) (T := TX2) (N := 3) hx hb hts iX2 tyX2 tyX2_ok nmX2 hown hK.1 hP (gD hI) hS 3 (gW_2 kd3) rfl 2 (by decide) f25 (fun _ h9 => h9) rfl (by decide +kernel) (g_nz hc) (g_fz hc) (Nat.le_of_ble_eq_true rfl) dX2_start_14 (fun H locs hP _ hS => ?_)
  refine g_let hs (fun v_3 ev_3 hs => ?_)
  have hP : va_P D vwCl (gW cy ad v_3 u) H := gPset ((gS_2_2 kd3 x1).trans (congrArg (fun z => gW cy ad z u) ev_3.symm)) hP
  exact gRet_v hx hb hr hlocks hK hP hS (g_some hs) dX2_start_17
set_option maxHeartbeats 4000000 in
set_option maxRecDepth 100000 in
theorem cX2_described_c (l : Launch) (D : va_G) (cy : Nat → ClassId) (ad : Nat → Nat) (tL z0 : Nat) (hI : gI z0 ad) (v : gV) (u : Int64) (x0 : Int32) (x1 : Int32) (x2 : Int32) (x3 : Int32) (r0 : Int32) (hs : sX2_described x0 x1 x2 x3 = some r0) : Met l yX2_described wsX2_described ({ frames := 1, cells := 0, slots := 0, locals := 20 } : Room) (gPc D cy ad tL z0 v u [.int x0, .int x1, .int x2, .int x3]) (gQi D cy ad tL z0 v u r0) 0 0 (gA z0) := by
  refine Met.ofW (cc := cX2_described) (maxL := 4) (ret := (some .int)) (by decide) rfl ?_
  intro p e s m args below meth c s₁ B hml hv
  obtain ⟨rfl, hB0⟩ := hv
  have hP : va_P D vwCl (gW cy ad v u) s.heap := hB0.1
  have hK : gK D cy tL z0 s s.heap := hB0.2
  have hx := B.exec
  have hb := B.bytes
  have hr := B.returns
  have hts := atoms_spec (ws := wsX2_described) B.pre
  have hown : s.vm.findClass RX2 = some m.cls := findClass_of_methodNamed B.named
  have hlocks := B.notSynchronized
  have hS : va_S (gA z0) s.heap s.heap [] := va_S.rf
  have hl := lv_entry ([.int x0, .int x1, .int x2, .int x3]) (n := 4) (Nat.le_of_ble_eq_true rfl)
  rw [lg_entry_eq]
  generalize (lg_sl ([.int x0, .int x1, .int x2, .int x3]) ++ List.replicate (4 - (lg_sl ([.int x0, .int x1, .int x2, .int x3])).length) Slot.unset).toArray = ls at hl ⊢
  have hl : lv_has ls 4 [(0, .int x0), (1, .int x1), (2, .int x2), (3, .int x3)] := hl
  have stX5_isAdjectiveWord := hts (.static yX5_isAdjectiveWord) (by decide +kernel)
  have inX5 := hts (.initialized RX5) (by decide +kernel)
  have stX5_isNoun := hts (.static yX5_isNoun) (by decide +kernel)
  clear hB0
  unfold sX2_described at hs
  refine lv_iload_n hx hb dX2_described_0 rfl (lv_at hl 0 rfl) ?_
  refine lv_bipush (v := 21) hx hb dX2_described_1 (by decide) ?_
  refine lv_icmp_ne (tgt := 8) hx hb dX2_described_3 (by decide) (fun hc => ?_) (fun hc => ?_)
  · have hs := g_f hs hc
    refine lv_iload_n hx hb dX2_described_8 rfl (lv_at hl 0 rfl) ?_
    refine g_bind hs (fun q_1 hq_1 hs => ?_)
    refine gCN_i (As := [.int x0]) (rest := []) ⟨hx, hb, hml, hown, hts⟩ (cX5_isAdjectiveWord_c l D cy ad tL z0 hI v u x0 q_1 hq_1) (va_cnB (host := RX5) 1 hts gX2_described_X5_isAdjectiveWord_n60 rfl rfl rfl (hK.2.2.2.1 _ (List.mem_of_getElem? (i := 3) rfl)) inX5 (by decide +kernel) ⟨Nat.le_of_ble_eq_true rfl, Nat.le_of_ble_eq_true rfl⟩) stX5_isAdjectiveWord hK hP hS hl.1 rfl rfl (Nat.le_of_ble_eq_true rfl) dX2_described_9 ⟨Nat.zero_le _, Nat.zero_le _⟩ (fun H locs hP hS => ?_)
    refine lv_if_eq (tgt := 17) hx hb dX2_described_12 (by decide) (fun hc => ?_) (fun hc => ?_)
    · have hs := g_t hs hc
      refine lv_iload_n hx hb dX2_described_17 rfl (lv_at hl 0 rfl) ?_
      refine g_bind hs (fun q_2 hq_2 hs => ?_)
      refine gCN_i (As := [.int x0]) (rest := []) ⟨hx, hb, hml, hown, hts⟩ (cX5_isNoun_c l D cy ad tL z0 hI v u x0 q_2 hq_2) (va_cnB (host := RX5) 1 hts gX2_described_X5_isNoun_n63 rfl rfl rfl (hK.2.2.2.1 _ (List.mem_of_getElem? (i := 2) rfl)) inX5 (by decide +kernel) ⟨Nat.le_of_ble_eq_true rfl, Nat.le_of_ble_eq_true rfl⟩) stX5_isNoun hK hP hS hl.1 rfl rfl (Nat.le_of_ble_eq_true rfl) dX2_described_18 ⟨Nat.zero_le _, Nat.zero_le _⟩ (fun H locs hP hS => ?_)
      refine lv_if_eq (tgt := 28) hx hb dX2_described_21 (by decide) (fun hc => ?_) (fun hc => ?_)
      · have hs := g_t hs hc
        refine lv_iconst (v := (-1)) hx hb dX2_described_28 (by decide) ?_
        exact gRet_i hx hb hr hlocks hK hP hS ⟨g_some hs, rfl⟩ dX2_described_29
      · have hs := g_f hs hc
        refine lv_iload_n hx hb dX2_described_24 rfl (lv_at hl 3 rfl) ?_
        refine lv_goto (tgt := 29) hx hb dX2_described_25 (by decide) ?_
        exact gRet_i hx hb hr hlocks hK hP hS ⟨g_some hs, rfl⟩ dX2_described_29
    · have hs := g_f hs hc
      refine lv_iload_n hx hb dX2_described_15 rfl (lv_at hl 2 rfl) ?_
      exact gRet_i hx hb hr hlocks hK hP hS ⟨g_some hs, rfl⟩ dX2_described_16
  · have hs := g_t hs hc
    refine lv_iload_n hx hb dX2_described_6 rfl (lv_at hl 1 rfl) ?_
    exact gRet_i hx hb hr hlocks hK hP hS ⟨g_some hs, rfl⟩ dX2_described_7
set_option maxHeartbeats 4000000 in
set_option maxRecDepth 100000 in
theorem cX2_afterStart_c (l : Launch) (D : va_G) (cy : Nat → ClassId) (ad : Nat → Nat) (tL z0 : Nat) (hI : gI z0 ad) (v : gV) (u : Int64) (x1 : Int32) (r0 : Int32) (hs : sX2_afterStart v x1 = some r0) : Met l yX2_afterStart wsX2_afterStart ({ frames := 2, cells := 0, slots := 0, locals := 43 } : Room) (gPc D cy ad tL z0 v u [.ref (ad 3), .int x1]) (gQi D cy ad tL z0 v u r0) 0 0 (gA z0) := by
  refine Met.ofW (cc := cX2_afterStart) (maxL := 2) (ret := (some .int)) (by decide) rfl ?_
  intro p e s m args below meth c s₁ B hml hv
  obtain ⟨rfl, hB0⟩ := hv
  have hP : va_P D vwCl (gW cy ad v u) s.heap := hB0.1
  have hK : gK D cy tL z0 s s.heap := hB0.2
  have hx := B.exec
  have hb := B.bytes
  have hr := B.returns
  have hts := atoms_spec (ws := wsX2_afterStart) B.pre
  have hown : s.vm.findClass RX2 = some m.cls := findClass_of_methodNamed B.named
  have hlocks := B.notSynchronized
  have hS : va_S (gA z0) s.heap s.heap [] := va_S.rf
  have hl := lv_entry ([.ref (ad 3), .int x1]) (n := 2) (Nat.le_of_ble_eq_true rfl)
  rw [lg_entry_eq]
  generalize (lg_sl ([.ref (ad 3), .int x1]) ++ List.replicate (2 - (lg_sl ([.ref (ad 3), .int x1])).length) Slot.unset).toArray = ls at hl ⊢
  have hl : lv_has ls 2 [(0, .ref (ad 3)), (1, .int x1)] := hl
  have stX5_isVerbWord := hts (.static yX5_isVerbWord) (by decide +kernel)
  have inX5 := hts (.initialized RX5) (by decide +kernel)
  have iX2 := (show ∀ w ∈ u_ws RX2 TX2 3, w ∈ wsX2_afterStart by decide +kernel)
  have f25 := hts (.fieldLink RX2 25 "AdventureParser$Reading" "answerPossible" "Z") (by decide +kernel)
  clear hB0
  unfold sX2_afterStart at hs
  refine lv_iload_n hx hb dX2_afterStart_0 rfl (lv_at hl 1 rfl) ?_
  refine g_bind hs (fun q_1 hq_1 hs => ?_)
  refine gCN_i (As := [.int x1]) (rest := []) ⟨hx, hb, hml, hown, hts⟩ (cX5_isVerbWord_c l D cy ad tL z0 hI v u x1 q_1 hq_1) (va_cnB (host := RX5) 1 hts gX2_afterStart_X5_isVerbWord_n57 rfl rfl rfl (hK.2.2.2.1 _ (List.mem_of_getElem? (i := 4) rfl)) inX5 (by decide +kernel) ⟨Nat.le_of_ble_eq_true rfl, Nat.le_of_ble_eq_true rfl⟩) stX5_isVerbWord hK hP hS hl.1 rfl rfl (Nat.le_of_ble_eq_true rfl) dX2_afterStart_1 ⟨Nat.zero_le _, Nat.zero_le _⟩ (fun H locs hP hS => ?_)
  refine lv_if_eq (tgt := 20) hx hb dX2_afterStart_4 (by decide) (fun hc => ?_) (fun hc => ?_)
  · have hs := g_t hs hc
    refine lv_aload_n hx hb dX2_afterStart_20 rfl (lv_at hl 0 rfl) ?_
    refine va_get (D := D) (ci := 2) (v := .int (v 3 2)) (C := RX2) (T := TX2) (N := 3) hx hb hts iX2 hown hK.1 hP 3 (gW_2 kd3) rfl 2 (by decide) f25 (fun _ h9 => h9) rfl dX2_afterStart_21 ?_
    refine lv_if_eq (tgt := 39) hx hb dX2_afterStart_24 (by decide) (fun hc => ?_) (fun hc => ?_)
    · have hs := g_t hs hc
      refine lv_iconst (v := (-1)) hx hb dX2_afterStart_39 (by decide) ?_
      exact gRet_i hx hb hr hlocks hK hP hS ⟨g_some hs, rfl⟩ dX2_afterStart_40
    · have hs := g_f hs hc
      refine lv_iload_n hx hb dX2_afterStart_27 rfl (lv_at hl 1 rfl) ?_
      refine lv_bipush (v := 11) hx hb dX2_afterStart_28 (by decide) ?_
      refine lv_bipush (v := 12) hx hb dX2_afterStart_30 (by decide) ?_
      refine lv_iconst (v := (-1)) hx hb dX2_afterStart_32 (by decide) ?_
      refine g_bind hs (fun q_2 hq_2 hs => ?_)
      refine gCS_i (As := [.int x1, .int 11, .int 12, .int ((-1))]) (rest := []) ⟨hx, hb, hml, hown, hts⟩ (cX2_described_c l D cy ad tL z0 hI v u x1 11 12 ((-1)) q_2 hq_2) (va_cwS 4 hts gX2_afterStart_X2_described rfl rfl rfl (by decide +kernel) ⟨Nat.le_of_ble_eq_true rfl, Nat.le_of_ble_eq_true rfl⟩) hK hP hS hl.1 rfl rfl (Nat.le_of_ble_eq_true rfl) dX2_afterStart_33 ⟨Nat.zero_le _, Nat.zero_le _⟩ (fun H locs hP hS => ?_)
      refine lv_goto (tgt := 40) hx hb dX2_afterStart_36 (by decide) ?_
      exact gRet_i hx hb hr hlocks hK hP hS ⟨g_some hs, rfl⟩ dX2_afterStart_40
  · have hs := g_f hs hc
    refine lv_iload_n hx hb dX2_afterStart_7 rfl (lv_at hl 1 rfl) ?_
    refine lv_bipush (v := 15) hx hb dX2_afterStart_8 (by decide) ?_
    refine lv_icmp_ge (tgt := 17) hx hb dX2_afterStart_10 (by decide) (fun hc => ?_) (fun hc => ?_)
    · have hs := g_t hs hc
      refine lv_bipush (v := 13) hx hb dX2_afterStart_17 (by decide) ?_
      exact gRet_i hx hb hr hlocks hK hP hS ⟨g_some hs, rfl⟩ dX2_afterStart_19
    · have hs := g_f hs hc
      refine lv_iconst (v := 1) hx hb dX2_afterStart_13 (by decide) ?_
      refine lv_goto (tgt := 19) hx hb dX2_afterStart_14 (by decide) ?_
      exact gRet_i hx hb hr hlocks hK hP hS ⟨g_some hs, rfl⟩ dX2_afterStart_19
set_option maxHeartbeats 4000000 in
set_option maxRecDepth 100000 in
theorem cX2_afterVerb_c (l : Launch) (D : va_G) (cy : Nat → ClassId) (ad : Nat → Nat) (tL z0 : Nat) (hI : gI z0 ad) (v : gV) (u : Int64) (x1 : Int32) (r0 : Int32) (hs : sX2_afterVerb x1 = some r0) : Met l yX2_afterVerb wsX2_afterVerb ({ frames := 2, cells := 0, slots := 0, locals := 43 } : Room) (gPc D cy ad tL z0 v u [.ref (ad 3), .int x1]) (gQi D cy ad tL z0 v u r0) 0 0 (gA z0) := by
  refine Met.ofW (cc := cX2_afterVerb) (maxL := 2) (ret := (some .int)) (by decide) rfl ?_
  intro p e s m args below meth c s₁ B hml hv
  obtain ⟨rfl, hB0⟩ := hv
  have hP : va_P D vwCl (gW cy ad v u) s.heap := hB0.1
  have hK : gK D cy tL z0 s s.heap := hB0.2
  have hx := B.exec
  have hb := B.bytes
  have hr := B.returns
  have hts := atoms_spec (ws := wsX2_afterVerb) B.pre
  have hown : s.vm.findClass RX2 = some m.cls := findClass_of_methodNamed B.named
  have hlocks := B.notSynchronized
  have hS : va_S (gA z0) s.heap s.heap [] := va_S.rf
  have hl := lv_entry ([.ref (ad 3), .int x1]) (n := 2) (Nat.le_of_ble_eq_true rfl)
  rw [lg_entry_eq]
  generalize (lg_sl ([.ref (ad 3), .int x1]) ++ List.replicate (2 - (lg_sl ([.ref (ad 3), .int x1])).length) Slot.unset).toArray = ls at hl ⊢
  have hl : lv_has ls 2 [(0, .ref (ad 3)), (1, .int x1)] := hl
  clear hB0
  unfold sX2_afterVerb at hs
  refine lv_iload_n hx hb dX2_afterVerb_0 rfl (lv_at hl 1 rfl) ?_
  refine lv_bipush (v := 17) hx hb dX2_afterVerb_1 (by decide) ?_
  refine lv_icmp_ne (tgt := 8) hx hb dX2_afterVerb_3 (by decide) (fun hc => ?_) (fun hc => ?_)
  · have hs := g_f hs hc
    refine lv_iload_n hx hb dX2_afterVerb_8 rfl (lv_at hl 1 rfl) ?_
    refine lv_bipush (v := 22) hx hb dX2_afterVerb_9 (by decide) ?_
    refine lv_icmp_eq (tgt := 20) hx hb dX2_afterVerb_11 (by decide) (fun hc => ?_) (fun hc => ?_)
    · have hs := g_t hs hc
      refine lv_iconst (v := 3) hx hb dX2_afterVerb_20 (by decide) ?_
      exact gRet_i hx hb hr hlocks hK hP hS ⟨g_some hs, rfl⟩ dX2_afterVerb_21
    · have hs := g_f hs hc
      refine lv_iload_n hx hb dX2_afterVerb_14 rfl (lv_at hl 1 rfl) ?_
      refine lv_bipush (v := 23) hx hb dX2_afterVerb_15 (by decide) ?_
      refine lv_icmp_ne (tgt := 22) hx hb dX2_afterVerb_17 (by decide) (fun hc => ?_) (fun hc => ?_)
      · have hs := g_f hs hc
        refine lv_iload_n hx hb dX2_afterVerb_22 rfl (lv_at hl 1 rfl) ?_
        refine lv_iconst (v := 5) hx hb dX2_afterVerb_23 (by decide) ?_
        refine lv_bipush (v := 6) hx hb dX2_afterVerb_24 (by decide) ?_
        refine lv_bipush (v := 7) hx hb dX2_afterVerb_26 (by decide) ?_
        refine g_bind hs (fun q_1 hq_1 hs => ?_)
        refine gCS_i (As := [.int x1, .int 5, .int 6, .int 7]) (rest := []) ⟨hx, hb, hml, hown, hts⟩ (cX2_described_c l D cy ad tL z0 hI v u x1 5 6 7 q_1 hq_1) (va_cwS 4 hts gX2_afterVerb_X2_described rfl rfl rfl (by decide +kernel) ⟨Nat.le_of_ble_eq_true rfl, Nat.le_of_ble_eq_true rfl⟩) hK hP hS hl.1 rfl rfl (Nat.le_of_ble_eq_true rfl) dX2_afterVerb_28 ⟨Nat.zero_le _, Nat.zero_le _⟩ (fun H locs hP hS => ?_)
        exact gRet_i hx hb hr hlocks hK hP hS ⟨g_some hs, rfl⟩ dX2_afterVerb_31
      · have hs := g_t hs hc
        refine lv_iconst (v := 3) hx hb dX2_afterVerb_20 (by decide) ?_
        exact gRet_i hx hb hr hlocks hK hP hS ⟨g_some hs, rfl⟩ dX2_afterVerb_21
  · have hs := g_t hs hc
    refine lv_iconst (v := 2) hx hb dX2_afterVerb_6 (by decide) ?_
    exact gRet_i hx hb hr hlocks hK hP hS ⟨g_some hs, rfl⟩ dX2_afterVerb_7
set_option maxHeartbeats 4000000 in
set_option maxRecDepth 100000 in
theorem cX2_afterObjects_c (l : Launch) (D : va_G) (cy : Nat → ClassId) (ad : Nat → Nat) (tL z0 : Nat) (hI : gI z0 ad) (v : gV) (u : Int64) (x1 : Int32) (r0 : Int32) (hs : sX2_afterObjects v x1 = some r0) : Met l yX2_afterObjects wsX2_afterObjects ({ frames := 0, cells := 0, slots := 0, locals := 0 } : Room) (gPc D cy ad tL z0 v u [.ref (ad 3), .int x1]) (gQi D cy ad tL z0 v u r0) 0 0 (gA z0) := by
  refine Met.ofW (cc := cX2_afterObjects) (maxL := 2) (ret := (some .int)) (by decide) rfl ?_
  intro p e s m args below meth c s₁ B hml hv
  obtain ⟨rfl, hB0⟩ := hv
  have hP : va_P D vwCl (gW cy ad v u) s.heap := hB0.1
  have hK : gK D cy tL z0 s s.heap := hB0.2
  have hx := B.exec
  have hb := B.bytes
  have hr := B.returns
  have hts := atoms_spec (ws := wsX2_afterObjects) B.pre
  have hown : s.vm.findClass RX2 = some m.cls := findClass_of_methodNamed B.named
  have hlocks := B.notSynchronized
  have hS : va_S (gA z0) s.heap s.heap [] := va_S.rf
  have hl := lv_entry ([.ref (ad 3), .int x1]) (n := 2) (Nat.le_of_ble_eq_true rfl)
  rw [lg_entry_eq]
  generalize (lg_sl ([.ref (ad 3), .int x1]) ++ List.replicate (2 - (lg_sl ([.ref (ad 3), .int x1])).length) Slot.unset).toArray = ls at hl ⊢
  have hl : lv_has ls 2 [(0, .ref (ad 3)), (1, .int x1)] := hl
  have iX2 := (show ∀ w ∈ u_ws RX2 TX2 3, w ∈ wsX2_afterObjects by decide +kernel)
  have f12 := hts (.fieldLink RX2 12 "AdventureParser$Reading" "text" "LAdventureParser$Command;") (by decide +kernel)
  have iX1 := (show ∀ w ∈ u_ws RX1 TX1 8, w ∈ wsX2_afterObjects by decide +kernel)
  have f41 := hts (.fieldLink RX2 41 "AdventureParser$Command" "verb" "I") (by decide +kernel)
  clear hB0
  unfold sX2_afterObjects at hs
  refine lv_iload_n hx hb dX2_afterObjects_0 rfl (lv_at hl 1 rfl) ?_
  refine lv_bipush (v := 20) hx hb dX2_afterObjects_1 (by decide) ?_
  refine lv_icmp_ne (tgt := 22) hx hb dX2_afterObjects_3 (by decide) (fun hc => ?_) (fun hc => ?_)
  · have hs := g_f hs hc
    refine lv_iconst (v := (-1)) hx hb dX2_afterObjects_22 (by decide) ?_
    exact gRet_i hx hb hr hlocks hK hP hS ⟨g_some hs, rfl⟩ dX2_afterObjects_23
  · have hs := g_t hs hc
    refine lv_aload_n hx hb dX2_afterObjects_6 rfl (lv_at hl 0 rfl) ?_
    refine va_get (D := D) (ci := 2) (v := .ref (ad 4)) (C := RX2) (T := TX2) (N := 3) hx hb hts iX2 hown hK.1 hP 3 (gW_2 kd3) rfl 0 (by decide) f12 (fun _ h9 => h9) rfl dX2_afterObjects_7 ?_
    refine va_get (D := D) (ci := 1) (v := .int (v 4 3)) (C := RX1) (T := TX1) (N := 8) hx hb hts iX1 hown hK.1 hP 4 (gW_1 kd4) rfl 3 (by decide) f41 (fun _ h9 => h9) rfl dX2_afterObjects_10 ?_
    refine lv_iconst (v := 2) hx hb dX2_afterObjects_13 (by decide) ?_
    refine lv_icmp_ne (tgt := 22) hx hb dX2_afterObjects_14 (by decide) (fun hc => ?_) (fun hc => ?_)
    · have hs := g_f hs hc
      refine lv_iconst (v := (-1)) hx hb dX2_afterObjects_22 (by decide) ?_
      exact gRet_i hx hb hr hlocks hK hP hS ⟨g_some hs, rfl⟩ dX2_afterObjects_23
    · have hs := g_t hs hc
      refine lv_bipush (v := 8) hx hb dX2_afterObjects_17 (by decide) ?_
      refine lv_goto (tgt := 23) hx hb dX2_afterObjects_19 (by decide) ?_
      exact gRet_i hx hb hr hlocks hK hP hS ⟨g_some hs, rfl⟩ dX2_afterObjects_23
set_option maxHeartbeats 4000000 in
set_option maxRecDepth 100000 in
theorem cX2_after_c (l : Launch) (D : va_G) (cy : Nat → ClassId) (ad : Nat → Nat) (tL z0 : Nat) (hI : gI z0 ad) (v : gV) (u : Int64) (x1 : Int32) (r0 : Int32) (hs : sX2_after v x1 = some r0) : Met l yX2_after wsX2_after ({ frames := 3, cells := 0, slots := 0, locals := 64 } : Room) (gPc D cy ad tL z0 v u [.ref (ad 3), .int x1]) (gQi D cy ad tL z0 v u r0) 0 0 (gA z0) := by
  refine Met.ofW (cc := cX2_after) (maxL := 2) (ret := (some .int)) (by decide) rfl ?_
  intro p e s m args below meth c s₁ B hml hv
  obtain ⟨rfl, hB0⟩ := hv
  have hP : va_P D vwCl (gW cy ad v u) s.heap := hB0.1
  have hK : gK D cy tL z0 s s.heap := hB0.2
  have hx := B.exec
  have hb := B.bytes
  have hr := B.returns
  have hts := atoms_spec (ws := wsX2_after) B.pre
  have hown : s.vm.findClass RX2 = some m.cls := findClass_of_methodNamed B.named
  have hlocks := B.notSynchronized
  have hS : va_S (gA z0) s.heap s.heap [] := va_S.rf
  have hl := lv_entry ([.ref (ad 3), .int x1]) (n := 2) (Nat.le_of_ble_eq_true rfl)
  rw [lg_entry_eq]
  generalize (lg_sl ([.ref (ad 3), .int x1]) ++ List.replicate (2 - (lg_sl ([.ref (ad 3), .int x1])).length) Slot.unset).toArray = ls at hl ⊢
  have hl : lv_has ls 2 [(0, .ref (ad 3)), (1, .int x1)] := hl
  have iX2 := (show ∀ w ∈ u_ws RX2 TX2 3, w ∈ wsX2_after by decide +kernel)
  have f21 := hts (.fieldLink RX2 21 "AdventureParser$Reading" "position" "I") (by decide +kernel)
  clear hB0
  unfold sX2_after at hs
  refine lv_aload_n hx hb dX2_after_0 rfl (lv_at hl 0 rfl) ?_
  refine va_get (D := D) (ci := 2) (v := .int (v 3 1)) (C := RX2) (T := TX2) (N := 3) hx hb hts iX2 hown hK.1 hP 3 (gW_2 kd3) rfl 1 (by decide) f21 (fun _ h9 => h9) rfl dX2_after_1 ?_
  by_cases hc4_0 : v 3 1 = 0
  · have hs := g_t hs hc4_0
    refine lv_tableIn (off := 68) (tgt := 72) hx hb dX2_after_4 (by rw [hc4_0]; decide) (by rw [hc4_0]; decide) (by rw [hc4_0]; rfl) (by decide) ?_
    refine lv_aload_n hx hb dX2_after_72 rfl (lv_at hl 0 rfl) ?_
    refine lv_iload_n hx hb dX2_after_73 rfl (lv_at hl 1 rfl) ?_
    refine g_bind hs (fun q_1 hq_1 hs => ?_)
    refine gCV_i (As := [.int x1]) (rest := []) ⟨hx, hb, hml, hown, hts⟩ (cX2_afterStart_c l D cy ad tL z0 hI v u x1 q_1 hq_1) (cwV 1 hts gX2_after_X2_afterStart rfl rfl rfl (by decide +kernel) ⟨Nat.le_of_ble_eq_true rfl, Nat.le_of_ble_eq_true rfl⟩) hK hP hS (va_recv hK.1 hP (ci := 2) (q0 := 3) rfl (gW_2 kd3)) hl.1 rfl rfl (Nat.le_of_ble_eq_true rfl) dX2_after_74 ⟨Nat.zero_le _, Nat.zero_le _⟩ (fun H locs hP hS => ?_)
    exact gRet_i hx hb hr hlocks hK hP hS ⟨g_some hs, rfl⟩ dX2_after_77
  have hs := g_f hs hc4_0
  by_cases hc4_1 : v 3 1 = 1
  · have hs := g_t hs hc4_1
    refine lv_tableIn (off := 74) (tgt := 78) hx hb dX2_after_4 (by rw [hc4_1]; decide) (by rw [hc4_1]; decide) (by rw [hc4_1]; rfl) (by decide) ?_
    refine lv_aload_n hx hb dX2_after_78 rfl (lv_at hl 0 rfl) ?_
    refine lv_iload_n hx hb dX2_after_79 rfl (lv_at hl 1 rfl) ?_
    refine g_bind hs (fun q_2 hq_2 hs => ?_)
    refine gCV_i (As := [.int x1]) (rest := []) ⟨hx, hb, hml, hown, hts⟩ (cX2_afterVerb_c l D cy ad tL z0 hI v u x1 q_2 hq_2) (cwV 1 hts gX2_after_X2_afterVerb rfl rfl rfl (by decide +kernel) ⟨Nat.le_of_ble_eq_true rfl, Nat.le_of_ble_eq_true rfl⟩) hK hP hS (va_recv hK.1 hP (ci := 2) (q0 := 3) rfl (gW_2 kd3)) hl.1 rfl rfl (Nat.le_of_ble_eq_true rfl) dX2_after_80 ⟨Nat.zero_le _, Nat.zero_le _⟩ (fun H locs hP hS => ?_)
    exact gRet_i hx hb hr hlocks hK hP hS ⟨g_some hs, rfl⟩ dX2_after_83
  have hs := g_f hs hc4_1
  by_cases hc4_2 : v 3 1 = 2
  · have hs := g_t hs hc4_2
    refine lv_tableIn (off := 80) (tgt := 84) hx hb dX2_after_4 (by rw [hc4_2]; decide) (by rw [hc4_2]; decide) (by rw [hc4_2]; rfl) (by decide) ?_
    refine lv_iload_n hx hb dX2_after_84 rfl (lv_at hl 1 rfl) ?_
    refine lv_bipush (v := 18) hx hb dX2_after_85 (by decide) ?_
    refine lv_icmp_ne (tgt := 94) hx hb dX2_after_87 (by decide) (fun hc => ?_) (fun hc => ?_)
    · have hs := g_f hs hc
      refine lv_aload_n hx hb dX2_after_94 rfl (lv_at hl 0 rfl) ?_
      refine lv_iload_n hx hb dX2_after_95 rfl (lv_at hl 1 rfl) ?_
      refine g_bind hs (fun q_3 hq_3 hs => ?_)
      refine gCV_i (As := [.int x1]) (rest := []) ⟨hx, hb, hml, hown, hts⟩ (cX2_afterObjects_c l D cy ad tL z0 hI v u x1 q_3 hq_3) (cwV 1 hts gX2_after_X2_afterObjects rfl rfl rfl (by decide +kernel) ⟨Nat.le_of_ble_eq_true rfl, Nat.le_of_ble_eq_true rfl⟩) hK hP hS (va_recv hK.1 hP (ci := 2) (q0 := 3) rfl (gW_2 kd3)) hl.1 rfl rfl (Nat.le_of_ble_eq_true rfl) dX2_after_96 ⟨Nat.zero_le _, Nat.zero_le _⟩ (fun H locs hP hS => ?_)
      exact gRet_i hx hb hr hlocks hK hP hS ⟨g_some hs, rfl⟩ dX2_after_99
    · have hs := g_t hs hc
      refine lv_iconst (v := 4) hx hb dX2_after_90 (by decide) ?_
      refine lv_goto (tgt := 99) hx hb dX2_after_91 (by decide) ?_
      exact gRet_i hx hb hr hlocks hK hP hS ⟨g_some hs, rfl⟩ dX2_after_99
  have hs := g_f hs hc4_2
  by_cases hc4_3 : v 3 1 = 3
  · have hs := g_t hs hc4_3
    refine lv_tableIn (off := 96) (tgt := 100) hx hb dX2_after_4 (by rw [hc4_3]; decide) (by rw [hc4_3]; decide) (by rw [hc4_3]; rfl) (by decide) ?_
    refine lv_aload_n hx hb dX2_after_100 rfl (lv_at hl 0 rfl) ?_
    refine lv_iload_n hx hb dX2_after_101 rfl (lv_at hl 1 rfl) ?_
    refine g_bind hs (fun q_4 hq_4 hs => ?_)
    refine gCV_i (As := [.int x1]) (rest := []) ⟨hx, hb, hml, hown, hts⟩ (cX2_afterObjects_c l D cy ad tL z0 hI v u x1 q_4 hq_4) (cwV 1 hts gX2_after_X2_afterObjects rfl rfl rfl (by decide +kernel) ⟨Nat.le_of_ble_eq_true rfl, Nat.le_of_ble_eq_true rfl⟩) hK hP hS (va_recv hK.1 hP (ci := 2) (q0 := 3) rfl (gW_2 kd3)) hl.1 rfl rfl (Nat.le_of_ble_eq_true rfl) dX2_after_102 ⟨Nat.zero_le _, Nat.zero_le _⟩ (fun H locs hP hS => ?_)
    exact gRet_i hx hb hr hlocks hK hP hS ⟨g_some hs, rfl⟩ dX2_after_105
  have hs := g_f hs hc4_3
  by_cases hc4_4 : v 3 1 = 4
  · have hs := g_t hs hc4_4
    refine lv_tableIn (off := 102) (tgt := 106) hx hb dX2_after_4 (by rw [hc4_4]; decide) (by rw [hc4_4]; decide) (by rw [hc4_4]; rfl) (by decide) ?_
    refine lv_iload_n hx hb dX2_after_106 rfl (lv_at hl 1 rfl) ?_
    refine lv_iconst (v := 5) hx hb dX2_after_107 (by decide) ?_
    refine lv_bipush (v := 6) hx hb dX2_after_108 (by decide) ?_
    refine lv_bipush (v := 7) hx hb dX2_after_110 (by decide) ?_
    refine g_bind hs (fun q_5 hq_5 hs => ?_)
    refine gCS_i (As := [.int x1, .int 5, .int 6, .int 7]) (rest := []) ⟨hx, hb, hml, hown, hts⟩ (cX2_described_c l D cy ad tL z0 hI v u x1 5 6 7 q_5 hq_5) (va_cwS 4 hts gX2_after_X2_described rfl rfl rfl (by decide +kernel) ⟨Nat.le_of_ble_eq_true rfl, Nat.le_of_ble_eq_true rfl⟩) hK hP hS hl.1 rfl rfl (Nat.le_of_ble_eq_true rfl) dX2_after_112 ⟨Nat.zero_le _, Nat.zero_le _⟩ (fun H locs hP hS => ?_)
    exact gRet_i hx hb hr hlocks hK hP hS ⟨g_some hs, rfl⟩ dX2_after_115
  have hs := g_f hs hc4_4
  by_cases hc4_5 : v 3 1 = 5
  · have hs := g_t hs hc4_5
    refine lv_tableIn (off := 112) (tgt := 116) hx hb dX2_after_4 (by rw [hc4_5]; decide) (by rw [hc4_5]; decide) (by rw [hc4_5]; rfl) (by decide) ?_
    refine lv_iload_n hx hb dX2_after_116 rfl (lv_at hl 1 rfl) ?_
    refine lv_iconst (v := (-1)) hx hb dX2_after_117 (by decide) ?_
    refine lv_bipush (v := 6) hx hb dX2_after_118 (by decide) ?_
    refine lv_bipush (v := 7) hx hb dX2_after_120 (by decide) ?_
    refine g_bind hs (fun q_6 hq_6 hs => ?_)
    refine gCS_i (As := [.int x1, .int ((-1)), .int 6, .int 7]) (rest := []) ⟨hx, hb, hml, hown, hts⟩ (cX2_described_c l D cy ad tL z0 hI v u x1 ((-1)) 6 7 q_6 hq_6) (va_cwS 4 hts gX2_after_X2_described rfl rfl rfl (by decide +kernel) ⟨Nat.le_of_ble_eq_true rfl, Nat.le_of_ble_eq_true rfl⟩) hK hP hS hl.1 rfl rfl (Nat.le_of_ble_eq_true rfl) dX2_after_122 ⟨Nat.zero_le _, Nat.zero_le _⟩ (fun H locs hP hS => ?_)
    exact gRet_i hx hb hr hlocks hK hP hS ⟨g_some hs, rfl⟩ dX2_after_125
  have hs := g_f hs hc4_5
  by_cases hc4_6 : v 3 1 = 6
  · have hs := g_t hs hc4_6
    refine lv_tableIn (off := 122) (tgt := 126) hx hb dX2_after_4 (by rw [hc4_6]; decide) (by rw [hc4_6]; decide) (by rw [hc4_6]; rfl) (by decide) ?_
    refine lv_iload_n hx hb dX2_after_126 rfl (lv_at hl 1 rfl) ?_
    refine lv_iconst (v := (-1)) hx hb dX2_after_127 (by decide) ?_
    refine lv_iconst (v := (-1)) hx hb dX2_after_128 (by decide) ?_
    refine lv_bipush (v := 7) hx hb dX2_after_129 (by decide) ?_
    refine g_bind hs (fun q_7 hq_7 hs => ?_)
    refine gCS_i (As := [.int x1, .int ((-1)), .int ((-1)), .int 7]) (rest := []) ⟨hx, hb, hml, hown, hts⟩ (cX2_described_c l D cy ad tL z0 hI v u x1 ((-1)) ((-1)) 7 q_7 hq_7) (va_cwS 4 hts gX2_after_X2_described rfl rfl rfl (by decide +kernel) ⟨Nat.le_of_ble_eq_true rfl, Nat.le_of_ble_eq_true rfl⟩) hK hP hS hl.1 rfl rfl (Nat.le_of_ble_eq_true rfl) dX2_after_131 ⟨Nat.zero_le _, Nat.zero_le _⟩ (fun H locs hP hS => ?_)
    exact gRet_i hx hb hr hlocks hK hP hS ⟨g_some hs, rfl⟩ dX2_after_134
  have hs := g_f hs hc4_6
  by_cases hc4_7 : v 3 1 = 7
  · have hs := g_t hs hc4_7
    refine lv_tableIn (off := 131) (tgt := 135) hx hb dX2_after_4 (by rw [hc4_7]; decide) (by rw [hc4_7]; decide) (by rw [hc4_7]; rfl) (by decide) ?_
    refine lv_iload_n hx hb dX2_after_135 rfl (lv_at hl 1 rfl) ?_
    refine lv_bipush (v := 19) hx hb dX2_after_136 (by decide) ?_
    refine lv_icmp_ne (tgt := 145) hx hb dX2_after_138 (by decide) (fun hc => ?_) (fun hc => ?_)
    · have hs := g_f hs hc
      refine lv_aload_n hx hb dX2_after_145 rfl (lv_at hl 0 rfl) ?_
      refine lv_iload_n hx hb dX2_after_146 rfl (lv_at hl 1 rfl) ?_
      refine g_bind hs (fun q_8 hq_8 hs => ?_)
      refine gCV_i (As := [.int x1]) (rest := []) ⟨hx, hb, hml, hown, hts⟩ (cX2_afterObjects_c l D cy ad tL z0 hI v u x1 q_8 hq_8) (cwV 1 hts gX2_after_X2_afterObjects rfl rfl rfl (by decide +kernel) ⟨Nat.le_of_ble_eq_true rfl, Nat.le_of_ble_eq_true rfl⟩) hK hP hS (va_recv hK.1 hP (ci := 2) (q0 := 3) rfl (gW_2 kd3)) hl.1 rfl rfl (Nat.le_of_ble_eq_true rfl) dX2_after_147 ⟨Nat.zero_le _, Nat.zero_le _⟩ (fun H locs hP hS => ?_)
      exact gRet_i hx hb hr hlocks hK hP hS ⟨g_some hs, rfl⟩ dX2_after_150
    · have hs := g_t hs hc
      refine lv_iconst (v := 4) hx hb dX2_after_141 (by decide) ?_
      refine lv_goto (tgt := 150) hx hb dX2_after_142 (by decide) ?_
      exact gRet_i hx hb hr hlocks hK hP hS ⟨g_some hs, rfl⟩ dX2_after_150
  have hs := g_f hs hc4_7
  by_cases hc4_8 : v 3 1 = 8
  · have hs := g_t hs hc4_8
    refine lv_tableIn (off := 147) (tgt := 151) hx hb dX2_after_4 (by rw [hc4_8]; decide) (by rw [hc4_8]; decide) (by rw [hc4_8]; rfl) (by decide) ?_
    refine lv_iload_n hx hb dX2_after_151 rfl (lv_at hl 1 rfl) ?_
    refine lv_bipush (v := 22) hx hb dX2_after_152 (by decide) ?_
    refine lv_icmp_ne (tgt := 162) hx hb dX2_after_154 (by decide) (fun hc => ?_) (fun hc => ?_)
    · have hs := g_f hs hc
      refine lv_iload_n hx hb dX2_after_162 rfl (lv_at hl 1 rfl) ?_
      refine lv_bipush (v := 9) hx hb dX2_after_163 (by decide) ?_
      refine lv_bipush (v := 10) hx hb dX2_after_165 (by decide) ?_
      refine lv_bipush (v := 13) hx hb dX2_after_167 (by decide) ?_
      refine g_bind hs (fun q_9 hq_9 hs => ?_)
      refine gCS_i (As := [.int x1, .int 9, .int 10, .int 13]) (rest := []) ⟨hx, hb, hml, hown, hts⟩ (cX2_described_c l D cy ad tL z0 hI v u x1 9 10 13 q_9 hq_9) (va_cwS 4 hts gX2_after_X2_described rfl rfl rfl (by decide +kernel) ⟨Nat.le_of_ble_eq_true rfl, Nat.le_of_ble_eq_true rfl⟩) hK hP hS hl.1 rfl rfl (Nat.le_of_ble_eq_true rfl) dX2_after_169 ⟨Nat.zero_le _, Nat.zero_le _⟩ (fun H locs hP hS => ?_)
      exact gRet_i hx hb hr hlocks hK hP hS ⟨g_some hs, rfl⟩ dX2_after_172
    · have hs := g_t hs hc
      refine lv_bipush (v := 13) hx hb dX2_after_157 (by decide) ?_
      refine lv_goto (tgt := 172) hx hb dX2_after_159 (by decide) ?_
      exact gRet_i hx hb hr hlocks hK hP hS ⟨g_some hs, rfl⟩ dX2_after_172
  have hs := g_f hs hc4_8
  by_cases hc4_9 : v 3 1 = 9
  · have hs := g_t hs hc4_9
    refine lv_tableIn (off := 169) (tgt := 173) hx hb dX2_after_4 (by rw [hc4_9]; decide) (by rw [hc4_9]; decide) (by rw [hc4_9]; rfl) (by decide) ?_
    refine lv_iload_n hx hb dX2_after_173 rfl (lv_at hl 1 rfl) ?_
    refine lv_iconst (v := (-1)) hx hb dX2_after_174 (by decide) ?_
    refine lv_bipush (v := 10) hx hb dX2_after_175 (by decide) ?_
    refine lv_bipush (v := 13) hx hb dX2_after_177 (by decide) ?_
    refine g_bind hs (fun q_10 hq_10 hs => ?_)
    refine gCS_i (As := [.int x1, .int ((-1)), .int 10, .int 13]) (rest := []) ⟨hx, hb, hml, hown, hts⟩ (cX2_described_c l D cy ad tL z0 hI v u x1 ((-1)) 10 13 q_10 hq_10) (va_cwS 4 hts gX2_after_X2_described rfl rfl rfl (by decide +kernel) ⟨Nat.le_of_ble_eq_true rfl, Nat.le_of_ble_eq_true rfl⟩) hK hP hS hl.1 rfl rfl (Nat.le_of_ble_eq_true rfl) dX2_after_179 ⟨Nat.zero_le _, Nat.zero_le _⟩ (fun H locs hP hS => ?_)
    exact gRet_i hx hb hr hlocks hK hP hS ⟨g_some hs, rfl⟩ dX2_after_182
  have hs := g_f hs hc4_9
  by_cases hc4_10 : v 3 1 = 10
  · have hs := g_t hs hc4_10
    refine lv_tableIn (off := 179) (tgt := 183) hx hb dX2_after_4 (by rw [hc4_10]; decide) (by rw [hc4_10]; decide) (by rw [hc4_10]; rfl) (by decide) ?_
    refine lv_iload_n hx hb dX2_after_183 rfl (lv_at hl 1 rfl) ?_
    refine lv_iconst (v := (-1)) hx hb dX2_after_184 (by decide) ?_
    refine lv_iconst (v := (-1)) hx hb dX2_after_185 (by decide) ?_
    refine lv_bipush (v := 13) hx hb dX2_after_186 (by decide) ?_
    refine g_bind hs (fun q_11 hq_11 hs => ?_)
    refine gCS_i (As := [.int x1, .int ((-1)), .int ((-1)), .int 13]) (rest := []) ⟨hx, hb, hml, hown, hts⟩ (cX2_described_c l D cy ad tL z0 hI v u x1 ((-1)) ((-1)) 13 q_11 hq_11) (va_cwS 4 hts gX2_after_X2_described rfl rfl rfl (by decide +kernel) ⟨Nat.le_of_ble_eq_true rfl, Nat.le_of_ble_eq_true rfl⟩) hK hP hS hl.1 rfl rfl (Nat.le_of_ble_eq_true rfl) dX2_after_188 ⟨Nat.zero_le _, Nat.zero_le _⟩ (fun H locs hP hS => ?_)
    exact gRet_i hx hb hr hlocks hK hP hS ⟨g_some hs, rfl⟩ dX2_after_191
  have hs := g_f hs hc4_10
  by_cases hc4_11 : v 3 1 = 11
  · have hs := g_t hs hc4_11
    refine lv_tableIn (off := 188) (tgt := 192) hx hb dX2_after_4 (by rw [hc4_11]; decide) (by rw [hc4_11]; decide) (by rw [hc4_11]; rfl) (by decide) ?_
    refine lv_iload_n hx hb dX2_after_192 rfl (lv_at hl 1 rfl) ?_
    refine lv_iconst (v := (-1)) hx hb dX2_after_193 (by decide) ?_
    refine lv_bipush (v := 12) hx hb dX2_after_194 (by decide) ?_
    refine lv_iconst (v := (-1)) hx hb dX2_after_196 (by decide) ?_
    refine g_bind hs (fun q_12 hq_12 hs => ?_)
    refine gCS_i (As := [.int x1, .int ((-1)), .int 12, .int ((-1))]) (rest := []) ⟨hx, hb, hml, hown, hts⟩ (cX2_described_c l D cy ad tL z0 hI v u x1 ((-1)) 12 ((-1)) q_12 hq_12) (va_cwS 4 hts gX2_after_X2_described rfl rfl rfl (by decide +kernel) ⟨Nat.le_of_ble_eq_true rfl, Nat.le_of_ble_eq_true rfl⟩) hK hP hS hl.1 rfl rfl (Nat.le_of_ble_eq_true rfl) dX2_after_197 ⟨Nat.zero_le _, Nat.zero_le _⟩ (fun H locs hP hS => ?_)
    exact gRet_i hx hb hr hlocks hK hP hS ⟨g_some hs, rfl⟩ dX2_after_200
  have hs := g_f hs hc4_11
  by_cases hc4_12 : v 3 1 = 12
  · have hs := g_t hs hc4_12
    refine lv_tableIn (off := 197) (tgt := 201) hx hb dX2_after_4 (by rw [hc4_12]; decide) (by rw [hc4_12]; decide) (by rw [hc4_12]; rfl) (by decide) ?_
    refine lv_iload_n hx hb dX2_after_201 rfl (lv_at hl 1 rfl) ?_
    refine lv_bipush (v := 24) hx hb dX2_after_202 (by decide) ?_
    refine lv_icmp_ne (tgt := 212) hx hb dX2_after_204 (by decide) (fun hc => ?_) (fun hc => ?_)
    · have hs := g_f hs hc
      refine lv_iload_n hx hb dX2_after_212 rfl (lv_at hl 1 rfl) ?_
      refine lv_iconst (v := (-1)) hx hb dX2_after_213 (by decide) ?_
      refine lv_iconst (v := (-1)) hx hb dX2_after_214 (by decide) ?_
      refine lv_bipush (v := 13) hx hb dX2_after_215 (by decide) ?_
      refine g_bind hs (fun q_13 hq_13 hs => ?_)
      refine gCS_i (As := [.int x1, .int ((-1)), .int ((-1)), .int 13]) (rest := []) ⟨hx, hb, hml, hown, hts⟩ (cX2_described_c l D cy ad tL z0 hI v u x1 ((-1)) ((-1)) 13 q_13 hq_13) (va_cwS 4 hts gX2_after_X2_described rfl rfl rfl (by decide +kernel) ⟨Nat.le_of_ble_eq_true rfl, Nat.le_of_ble_eq_true rfl⟩) hK hP hS hl.1 rfl rfl (Nat.le_of_ble_eq_true rfl) dX2_after_217 ⟨Nat.zero_le _, Nat.zero_le _⟩ (fun H locs hP hS => ?_)
      exact gRet_i hx hb hr hlocks hK hP hS ⟨g_some hs, rfl⟩ dX2_after_220
    · have hs := g_t hs hc
      refine lv_bipush (v := 13) hx hb dX2_after_207 (by decide) ?_
      refine lv_goto (tgt := 220) hx hb dX2_after_209 (by decide) ?_
      exact gRet_i hx hb hr hlocks hK hP hS ⟨g_some hs, rfl⟩ dX2_after_220
  have hs := g_f hs hc4_12
  refine lv_tableOut (tgt := 221) hx hb dX2_after_4 (by have n0 := g_neI (i := 0) hc4_0 (by decide); have n1 := g_neI (i := 1) hc4_1 (by decide); have n2 := g_neI (i := 2) hc4_2 (by decide); have n3 := g_neI (i := 3) hc4_3 (by decide); have n4 := g_neI (i := 4) hc4_4 (by decide); have n5 := g_neI (i := 5) hc4_5 (by decide); have n6 := g_neI (i := 6) hc4_6 (by decide); have n7 := g_neI (i := 7) hc4_7 (by decide); have n8 := g_neI (i := 8) hc4_8 (by decide); have n9 := g_neI (i := 9) hc4_9 (by decide); have n10 := g_neI (i := 10) hc4_10 (by decide); have n11 := g_neI (i := 11) hc4_11 (by decide); have n12 := g_neI (i := 12) hc4_12 (by decide); omega) (by decide) ?_
  refine lv_iconst (v := (-1)) hx hb dX2_after_221 (by decide) ?_
  exact gRet_i hx hb hr hlocks hK hP hS ⟨g_some hs, rfl⟩ dX2_after_222
set_option maxHeartbeats 4000000 in
set_option maxRecDepth 100000 in
theorem cX2_read_c (l : Launch) (D : va_G) (cy : Nat → ClassId) (ad : Nat → Nat) (tL z0 : Nat) (hI : gI z0 ad) (v : gV) (u : Int64) (x1 : Int32) (r0 : Int32) (v1 : gV) (hs : sX2_read v x1 = some (r0, v1)) : Met l yX2_read wsX2_read ({ frames := 4, cells := 0, slots := 0, locals := 85 } : Room) (gPc D cy ad tL z0 v u [.ref (ad 3), .int x1]) (gQi D cy ad tL z0 v1 u r0) 0 0 (gA z0) := by
  refine Met.ofW (cc := cX2_read) (maxL := 3) (ret := (some .boolean)) (by decide) rfl ?_
  intro p e s m args below meth c s₁ B hml hv
  obtain ⟨rfl, hB0⟩ := hv
  have hP : va_P D vwCl (gW cy ad v u) s.heap := hB0.1
  have hK : gK D cy tL z0 s s.heap := hB0.2
  have hx := B.exec
  have hb := B.bytes
  have hr := B.returns
  have hts := atoms_spec (ws := wsX2_read) B.pre
  have hown : s.vm.findClass RX2 = some m.cls := findClass_of_methodNamed B.named
  have hlocks := B.notSynchronized
  have hS : va_S (gA z0) s.heap s.heap [] := va_S.rf
  have hl := lv_entry ([.ref (ad 3), .int x1]) (n := 3) (Nat.le_of_ble_eq_true rfl)
  rw [lg_entry_eq]
  generalize (lg_sl ([.ref (ad 3), .int x1]) ++ List.replicate (3 - (lg_sl ([.ref (ad 3), .int x1])).length) Slot.unset).toArray = ls at hl ⊢
  have hl : lv_has ls 3 [(0, .ref (ad 3)), (1, .int x1)] := hl
  have iX2 := (show ∀ w ∈ u_ws RX2 TX2 3, w ∈ wsX2_read by decide +kernel)
  have f12 := hts (.fieldLink RX2 12 "AdventureParser$Reading" "text" "LAdventureParser$Command;") (by decide +kernel)
  have f21 := hts (.fieldLink RX2 21 "AdventureParser$Reading" "position" "I") (by decide +kernel)
  clear hB0
  unfold sX2_read at hs
  refine lv_aload_n hx hb dX2_read_0 rfl (lv_at hl 0 rfl) ?_
  refine lv_iload_n hx hb dX2_read_1 rfl (lv_at hl 1 rfl) ?_
  refine g_bind hs (fun q_1 hq_1 hs => ?_)
  refine gCV_i (As := [.int x1]) (rest := []) ⟨hx, hb, hml, hown, hts⟩ (cX2_after_c l D cy ad tL z0 hI v u x1 q_1 hq_1) (cwV 1 hts gX2_read_X2_after rfl rfl rfl (by decide +kernel) ⟨Nat.le_of_ble_eq_true rfl, Nat.le_of_ble_eq_true rfl⟩) hK hP hS (va_recv hK.1 hP (ci := 2) (q0 := 3) rfl (gW_2 kd3)) hl.1 rfl rfl (Nat.le_of_ble_eq_true rfl) dX2_read_2 ⟨Nat.zero_le _, Nat.zero_le _⟩ (fun H locs hP hS => ?_)
  refine lv_istore_n (lv' := [(2, .int q_1), (0, .ref (ad 3)), (1, .int x1)]) hx hb dX2_read_5 rfl hl (by decide) rfl (fun ls hl => ?_)
  refine lv_iload_n hx hb dX2_read_6 rfl (lv_at hl 0 rfl) ?_
  refine lv_iconst (v := (-1)) hx hb dX2_read_7 (by decide) ?_
  refine lv_icmp_ne (tgt := 13) hx hb dX2_read_8 (by decide) (fun hc => ?_) (fun hc => ?_)
  · have hs := g_f hs hc
    refine lv_aload_n hx hb dX2_read_13 rfl (lv_at hl 1 rfl) ?_
    refine va_get (D := D) (ci := 2) (v := .ref (ad 4)) (C := RX2) (T := TX2) (N := 3) hx hb hts iX2 hown hK.1 hP 3 (gW_2 kd3) rfl 0 (by decide) f12 (fun _ h9 => h9) rfl dX2_read_14 ?_
    refine lv_iload_n hx hb dX2_read_17 rfl (lv_at hl 2 rfl) ?_
    refine g_bind hs (fun q_2 hq_2 hs => ?_)
    refine gCV_v (As := [.int x1]) (rest := []) ⟨hx, hb, hml, hown, hts⟩ (cX1_note_c l D cy ad tL z0 hI v u 4 x1 q_2 kd4 hq_2) (cwV 1 hts gX2_read_X1_note rfl rfl rfl (by decide +kernel) ⟨Nat.le_of_ble_eq_true rfl, Nat.le_of_ble_eq_true rfl⟩) hK hP hS (va_recv hK.1 hP (ci := 1) (q0 := 4) rfl (gW_1 kd4)) hl.1 rfl rfl (Nat.le_of_ble_eq_true rfl) dX2_read_18 ⟨Nat.zero_le _, Nat.zero_le _⟩ (fun H locs hP hS => ?_)
    refine lv_aload_n hx hb dX2_read_21 rfl (lv_at hl 1 rfl) ?_
    refine lv_iload_n hx hb dX2_read_22 rfl (lv_at hl 0 rfl) ?_
    refine va_put (D := D) (ci := 2) (v := .int q_1) (ty := .int) (C := RX2) (T := TX2) (N := 3) hx hb hts iX2 tyX2 tyX2_ok nmX2 hown hK.1 hP (gD hI) hS 3 (gW_2 kd3) rfl 1 (by decide) f21 (fun _ h9 => h9) rfl (by decide +kernel) rfl rfl (Nat.le_of_ble_eq_true rfl) dX2_read_23 (fun H locs hP _ hS => ?_)
    refine g_let hs (fun v_3 ev_3 hs => ?_)
    have hP : va_P D vwCl (gW cy ad v_3 u) H := gPset ((gS_2_1 kd3 q_1).trans (congrArg (fun z => gW cy ad z u) ev_3.symm)) hP
    refine lv_iconst (v := 1) hx hb dX2_read_26 (by decide) ?_
    exact gRet_z hx hb hr hlocks rfl hK hP hS (g_some2 hs) dX2_read_27
  · have hs := g_t hs hc
    refine lv_iconst (v := 0) hx hb dX2_read_11 (by decide) ?_
    exact gRet_z hx hb hr hlocks rfl hK hP hS (g_some2 hs) dX2_read_12
set_option maxHeartbeats 4000000 in
set_option maxRecDepth 100000 in
theorem cX2_isComplete_c (l : Launch) (D : va_G) (cy : Nat → ClassId) (ad : Nat → Nat) (tL z0 : Nat) (hI : gI z0 ad) (v : gV) (u : Int64) (r0 : Int32) (hs : sX2_isComplete v = some r0) : Met l yX2_isComplete wsX2_isComplete ({ frames := 0, cells := 0, slots := 0, locals := 0 } : Room) (gPc D cy ad tL z0 v u [.ref (ad 3)]) (gQi D cy ad tL z0 v u r0) 0 0 (gA z0) := by
  refine Met.ofW (cc := cX2_isComplete) (maxL := 1) (ret := (some .boolean)) (by decide) rfl ?_
  intro p e s m args below meth c s₁ B hml hv
  obtain ⟨rfl, hB0⟩ := hv
  have hP : va_P D vwCl (gW cy ad v u) s.heap := hB0.1
  have hK : gK D cy tL z0 s s.heap := hB0.2
  have hx := B.exec
  have hb := B.bytes
  have hr := B.returns
  have hts := atoms_spec (ws := wsX2_isComplete) B.pre
  have hown : s.vm.findClass RX2 = some m.cls := findClass_of_methodNamed B.named
  have hlocks := B.notSynchronized
  have hS : va_S (gA z0) s.heap s.heap [] := va_S.rf
  have hl := lv_entry ([.ref (ad 3)]) (n := 1) (Nat.le_of_ble_eq_true rfl)
  rw [lg_entry_eq]
  generalize (lg_sl ([.ref (ad 3)]) ++ List.replicate (1 - (lg_sl ([.ref (ad 3)])).length) Slot.unset).toArray = ls at hl ⊢
  have hl : lv_has ls 1 [(0, .ref (ad 3))] := hl
  have iX2 := (show ∀ w ∈ u_ws RX2 TX2 3, w ∈ wsX2_isComplete by decide +kernel)
  have f21 := hts (.fieldLink RX2 21 "AdventureParser$Reading" "position" "I") (by decide +kernel)
  have f12 := hts (.fieldLink RX2 12 "AdventureParser$Reading" "text" "LAdventureParser$Command;") (by decide +kernel)
  have iX1 := (show ∀ w ∈ u_ws RX1 TX1 8, w ∈ wsX2_isComplete by decide +kernel)
  have f41 := hts (.fieldLink RX2 41 "AdventureParser$Command" "verb" "I") (by decide +kernel)
  clear hB0
  unfold sX2_isComplete at hs
  refine lv_aload_n hx hb dX2_isComplete_0 rfl (lv_at hl 0 rfl) ?_
  refine va_get (D := D) (ci := 2) (v := .int (v 3 1)) (C := RX2) (T := TX2) (N := 3) hx hb hts iX2 hown hK.1 hP 3 (gW_2 kd3) rfl 1 (by decide) f21 (fun _ h9 => h9) rfl dX2_isComplete_1 ?_
  by_cases hc4_2 : v 3 1 = 2
  · have hs := g_t hs hc4_2
    refine lv_tableIn (off := 66) (tgt := 70) hx hb dX2_isComplete_4 (by rw [hc4_2]; decide) (by rw [hc4_2]; decide) (by rw [hc4_2]; rfl) (by decide) ?_
    refine lv_aload_n hx hb dX2_isComplete_70 rfl (lv_at hl 0 rfl) ?_
    refine va_get (D := D) (ci := 2) (v := .ref (ad 4)) (C := RX2) (T := TX2) (N := 3) hx hb hts iX2 hown hK.1 hP 3 (gW_2 kd3) rfl 0 (by decide) f12 (fun _ h9 => h9) rfl dX2_isComplete_71 ?_
    refine va_get (D := D) (ci := 1) (v := .int (v 4 3)) (C := RX1) (T := TX1) (N := 8) hx hb hts iX1 hown hK.1 hP 4 (gW_1 kd4) rfl 3 (by decide) f41 (fun _ h9 => h9) rfl dX2_isComplete_74 ?_
    refine lv_iconst (v := 2) hx hb dX2_isComplete_77 (by decide) ?_
    refine lv_icmp_eq (tgt := 85) hx hb dX2_isComplete_78 (by decide) (fun hc => ?_) (fun hc => ?_)
    · have hs := g_t hs hc
      refine lv_iconst (v := 0) hx hb dX2_isComplete_85 (by decide) ?_
      exact gRet_z hx hb hr hlocks rfl hK hP hS ⟨g_some hs, rfl⟩ dX2_isComplete_86
    · have hs := g_f hs hc
      refine lv_iconst (v := 1) hx hb dX2_isComplete_81 (by decide) ?_
      refine lv_goto (tgt := 86) hx hb dX2_isComplete_82 (by decide) ?_
      exact gRet_z hx hb hr hlocks rfl hK hP hS ⟨g_some hs, rfl⟩ dX2_isComplete_86
  have hs := g_f hs hc4_2
  by_cases hc4_3 : v 3 1 = 3
  · have hs := g_t hs hc4_3
    refine lv_tableIn (off := 66) (tgt := 70) hx hb dX2_isComplete_4 (by rw [hc4_3]; decide) (by rw [hc4_3]; decide) (by rw [hc4_3]; rfl) (by decide) ?_
    refine lv_aload_n hx hb dX2_isComplete_70 rfl (lv_at hl 0 rfl) ?_
    refine va_get (D := D) (ci := 2) (v := .ref (ad 4)) (C := RX2) (T := TX2) (N := 3) hx hb hts iX2 hown hK.1 hP 3 (gW_2 kd3) rfl 0 (by decide) f12 (fun _ h9 => h9) rfl dX2_isComplete_71 ?_
    refine va_get (D := D) (ci := 1) (v := .int (v 4 3)) (C := RX1) (T := TX1) (N := 8) hx hb hts iX1 hown hK.1 hP 4 (gW_1 kd4) rfl 3 (by decide) f41 (fun _ h9 => h9) rfl dX2_isComplete_74 ?_
    refine lv_iconst (v := 2) hx hb dX2_isComplete_77 (by decide) ?_
    refine lv_icmp_eq (tgt := 85) hx hb dX2_isComplete_78 (by decide) (fun hc => ?_) (fun hc => ?_)
    · have hs := g_t hs hc
      refine lv_iconst (v := 0) hx hb dX2_isComplete_85 (by decide) ?_
      exact gRet_z hx hb hr hlocks rfl hK hP hS ⟨g_some hs, rfl⟩ dX2_isComplete_86
    · have hs := g_f hs hc
      refine lv_iconst (v := 1) hx hb dX2_isComplete_81 (by decide) ?_
      refine lv_goto (tgt := 86) hx hb dX2_isComplete_82 (by decide) ?_
      exact gRet_z hx hb hr hlocks rfl hK hP hS ⟨g_some hs, rfl⟩ dX2_isComplete_86
  have hs := g_f hs hc4_3
  by_cases hc4_4 : v 3 1 = 4
  · have hs := g_t hs hc4_4
    refine lv_tableIn (off := 83) (tgt := 87) hx hb dX2_isComplete_4 (by rw [hc4_4]; decide) (by rw [hc4_4]; decide) (by rw [hc4_4]; rfl) (by decide) ?_
    refine lv_iconst (v := 0) hx hb dX2_isComplete_87 (by decide) ?_
    exact gRet_z hx hb hr hlocks rfl hK hP hS ⟨g_some hs, rfl⟩ dX2_isComplete_88
  have hs := g_f hs hc4_4
  by_cases hc4_5 : v 3 1 = 5
  · have hs := g_t hs hc4_5
    refine lv_tableIn (off := 83) (tgt := 87) hx hb dX2_isComplete_4 (by rw [hc4_5]; decide) (by rw [hc4_5]; decide) (by rw [hc4_5]; rfl) (by decide) ?_
    refine lv_iconst (v := 0) hx hb dX2_isComplete_87 (by decide) ?_
    exact gRet_z hx hb hr hlocks rfl hK hP hS ⟨g_some hs, rfl⟩ dX2_isComplete_88
  have hs := g_f hs hc4_5
  by_cases hc4_6 : v 3 1 = 6
  · have hs := g_t hs hc4_6
    refine lv_tableIn (off := 83) (tgt := 87) hx hb dX2_isComplete_4 (by rw [hc4_6]; decide) (by rw [hc4_6]; decide) (by rw [hc4_6]; rfl) (by decide) ?_
    refine lv_iconst (v := 0) hx hb dX2_isComplete_87 (by decide) ?_
    exact gRet_z hx hb hr hlocks rfl hK hP hS ⟨g_some hs, rfl⟩ dX2_isComplete_88
  have hs := g_f hs hc4_6
  by_cases hc4_7 : v 3 1 = 7
  · have hs := g_t hs hc4_7
    refine lv_tableIn (off := 66) (tgt := 70) hx hb dX2_isComplete_4 (by rw [hc4_7]; decide) (by rw [hc4_7]; decide) (by rw [hc4_7]; rfl) (by decide) ?_
    refine lv_aload_n hx hb dX2_isComplete_70 rfl (lv_at hl 0 rfl) ?_
    refine va_get (D := D) (ci := 2) (v := .ref (ad 4)) (C := RX2) (T := TX2) (N := 3) hx hb hts iX2 hown hK.1 hP 3 (gW_2 kd3) rfl 0 (by decide) f12 (fun _ h9 => h9) rfl dX2_isComplete_71 ?_
    refine va_get (D := D) (ci := 1) (v := .int (v 4 3)) (C := RX1) (T := TX1) (N := 8) hx hb hts iX1 hown hK.1 hP 4 (gW_1 kd4) rfl 3 (by decide) f41 (fun _ h9 => h9) rfl dX2_isComplete_74 ?_
    refine lv_iconst (v := 2) hx hb dX2_isComplete_77 (by decide) ?_
    refine lv_icmp_eq (tgt := 85) hx hb dX2_isComplete_78 (by decide) (fun hc => ?_) (fun hc => ?_)
    · have hs := g_t hs hc
      refine lv_iconst (v := 0) hx hb dX2_isComplete_85 (by decide) ?_
      exact gRet_z hx hb hr hlocks rfl hK hP hS ⟨g_some hs, rfl⟩ dX2_isComplete_86
    · have hs := g_f hs hc
      refine lv_iconst (v := 1) hx hb dX2_isComplete_81 (by decide) ?_
      refine lv_goto (tgt := 86) hx hb dX2_isComplete_82 (by decide) ?_
      exact gRet_z hx hb hr hlocks rfl hK hP hS ⟨g_some hs, rfl⟩ dX2_isComplete_86
  have hs := g_f hs hc4_7
  by_cases hc4_8 : v 3 1 = 8
  · have hs := g_t hs hc4_8
    refine lv_tableIn (off := 83) (tgt := 87) hx hb dX2_isComplete_4 (by rw [hc4_8]; decide) (by rw [hc4_8]; decide) (by rw [hc4_8]; rfl) (by decide) ?_
    refine lv_iconst (v := 0) hx hb dX2_isComplete_87 (by decide) ?_
    exact gRet_z hx hb hr hlocks rfl hK hP hS ⟨g_some hs, rfl⟩ dX2_isComplete_88
  have hs := g_f hs hc4_8
  by_cases hc4_9 : v 3 1 = 9
  · have hs := g_t hs hc4_9
    refine lv_tableIn (off := 83) (tgt := 87) hx hb dX2_isComplete_4 (by rw [hc4_9]; decide) (by rw [hc4_9]; decide) (by rw [hc4_9]; rfl) (by decide) ?_
    refine lv_iconst (v := 0) hx hb dX2_isComplete_87 (by decide) ?_
    exact gRet_z hx hb hr hlocks rfl hK hP hS ⟨g_some hs, rfl⟩ dX2_isComplete_88
  have hs := g_f hs hc4_9
  by_cases hc4_10 : v 3 1 = 10
  · have hs := g_t hs hc4_10
    refine lv_tableIn (off := 83) (tgt := 87) hx hb dX2_isComplete_4 (by rw [hc4_10]; decide) (by rw [hc4_10]; decide) (by rw [hc4_10]; rfl) (by decide) ?_
    refine lv_iconst (v := 0) hx hb dX2_isComplete_87 (by decide) ?_
    exact gRet_z hx hb hr hlocks rfl hK hP hS ⟨g_some hs, rfl⟩ dX2_isComplete_88
  have hs := g_f hs hc4_10
  by_cases hc4_11 : v 3 1 = 11
  · have hs := g_t hs hc4_11
    refine lv_tableIn (off := 83) (tgt := 87) hx hb dX2_isComplete_4 (by rw [hc4_11]; decide) (by rw [hc4_11]; decide) (by rw [hc4_11]; rfl) (by decide) ?_
    refine lv_iconst (v := 0) hx hb dX2_isComplete_87 (by decide) ?_
    exact gRet_z hx hb hr hlocks rfl hK hP hS ⟨g_some hs, rfl⟩ dX2_isComplete_88
  have hs := g_f hs hc4_11
  by_cases hc4_12 : v 3 1 = 12
  · have hs := g_t hs hc4_12
    refine lv_tableIn (off := 64) (tgt := 68) hx hb dX2_isComplete_4 (by rw [hc4_12]; decide) (by rw [hc4_12]; decide) (by rw [hc4_12]; rfl) (by decide) ?_
    refine lv_iconst (v := 1) hx hb dX2_isComplete_68 (by decide) ?_
    exact gRet_z hx hb hr hlocks rfl hK hP hS ⟨g_some hs, rfl⟩ dX2_isComplete_69
  have hs := g_f hs hc4_12
  by_cases hc4_13 : v 3 1 = 13
  · have hs := g_t hs hc4_13
    refine lv_tableIn (off := 64) (tgt := 68) hx hb dX2_isComplete_4 (by rw [hc4_13]; decide) (by rw [hc4_13]; decide) (by rw [hc4_13]; rfl) (by decide) ?_
    refine lv_iconst (v := 1) hx hb dX2_isComplete_68 (by decide) ?_
    exact gRet_z hx hb hr hlocks rfl hK hP hS ⟨g_some hs, rfl⟩ dX2_isComplete_69
  have hs := g_f hs hc4_13
  refine lv_tableOut (tgt := 87) hx hb dX2_isComplete_4 (by have n2 := g_neI (i := 2) hc4_2 (by decide); have n3 := g_neI (i := 3) hc4_3 (by decide); have n4 := g_neI (i := 4) hc4_4 (by decide); have n5 := g_neI (i := 5) hc4_5 (by decide); have n6 := g_neI (i := 6) hc4_6 (by decide); have n7 := g_neI (i := 7) hc4_7 (by decide); have n8 := g_neI (i := 8) hc4_8 (by decide); have n9 := g_neI (i := 9) hc4_9 (by decide); have n10 := g_neI (i := 10) hc4_10 (by decide); have n11 := g_neI (i := 11) hc4_11 (by decide); have n12 := g_neI (i := 12) hc4_12 (by decide); have n13 := g_neI (i := 13) hc4_13 (by decide); omega) (by decide) ?_
  refine lv_iconst (v := 0) hx hb dX2_isComplete_87 (by decide) ?_
  exact gRet_z hx hb hr hlocks rfl hK hP hS ⟨g_some hs, rfl⟩ dX2_isComplete_88
set_option maxHeartbeats 4000000 in
set_option maxRecDepth 100000 in
theorem cX4_copyFrom_c (l : Launch) (D : va_G) (cy : Nat → ClassId) (ad : Nat → Nat) (tL z0 : Nat) (hI : gI z0 ad) (n : Nat) (v : gV) (u : Int64) (a0 : Nat) (a1 : Nat) (v1 : gV) (hk0 : kd a0 = 4) (hk1 : kd a1 = 4) (hs : sX4_copyFrom n v a0 a1 = some v1) : Met l yX4_copyFrom wsX4_copyFrom ({ frames := 0, cells := 0, slots := 0, locals := 0 } : Room) (gPc D cy ad tL z0 v u [.ref (ad a0), .ref (ad a1)]) (gQv D cy ad tL z0 v1 u) 0 0 (gA z0) := by
  refine Met.ofW (cc := cX4_copyFrom) (maxL := 3) (ret := none) (by decide) rfl ?_
  intro p e s m args below meth c s₁ B hml hv
  obtain ⟨rfl, hB0⟩ := hv
  have hP : va_P D vwCl (gW cy ad v u) s.heap := hB0.1
  have hK : gK D cy tL z0 s s.heap := hB0.2
  have hx := B.exec
  have hb := B.bytes
  have hr := B.returns
  have hts := atoms_spec (ws := wsX4_copyFrom) B.pre
  have hown : s.vm.findClass RX4 = some m.cls := findClass_of_methodNamed B.named
  have hlocks := B.notSynchronized
  have hS : va_S (gA z0) s.heap s.heap [] := va_S.rf
  have hl := lv_entry ([.ref (ad a0), .ref (ad a1)]) (n := 3) (Nat.le_of_ble_eq_true rfl)
  rw [lg_entry_eq]
  generalize (lg_sl ([.ref (ad a0), .ref (ad a1)]) ++ List.replicate (3 - (lg_sl ([.ref (ad a0), .ref (ad a1)])).length) Slot.unset).toArray = ls at hl ⊢
  have hl : lv_has ls 3 [(0, .ref (ad a0)), (1, .ref (ad a1))] := hl
  have iX4 := (show ∀ w ∈ u_ws RX4 TX4 6, w ∈ wsX4_copyFrom by decide +kernel)
  have f21 := hts (.fieldLink RX4 21 "AdventureParser$World" "count" "I") (by decide +kernel)
  have f25 := hts (.fieldLink RX4 25 "AdventureParser$World" "room" "I") (by decide +kernel)
  have f28 := hts (.fieldLink RX4 28 "AdventureParser$World" "openSet" "I") (by decide +kernel)
  have f9 := hts (.fieldLink RX4 9 "AdventureParser$World" "nouns" "[I") (by decide +kernel)
  have f15 := hts (.fieldLink RX4 15 "AdventureParser$World" "adjectives" "[I") (by decide +kernel)
  have f18 := hts (.fieldLink RX4 18 "AdventureParser$World" "places" "[I") (by decide +kernel)
  clear hB0
  have hL_2 : ∀ (k : Nat), ∀ (v : gV) (w2 : Int32) (H : Heap) (locs : List Loc) (ls : Array Slot), va_P D vwCl (gW cy ad v u) H → va_S (gA z0) s.heap H locs → lv_has ls 3 [(0, .ref (ad a0)), (1, .ref (ad a1)), (2, .int w2)] → sX4_copyFrom_2 n a0 a1 k v w2 = some v1 → W p l e (headSpec wsX4_copyFrom ({ frames := 0, cells := 0, slots := 0, locals := 0 } : Room)).room s m ([.ref (ad a0), .ref (ad a1)] : List Value).toArray below meth c H locs 0 0 (MQ below (gQv D cy ad tL z0 v1 u) ([.ref (ad a0), .ref (ad a1)] : List Value).toArray s 0 0 (gA z0)) (F0 m 2 ls []) := by
    intro k
    induction k with
    | zero =>
      intro v w2 H locs ls hP hS hl hs
      exact g_none hs
    | succ k ih =>
      intro v w2 H locs ls hP hS hl hs
      rw [sX4_copyFrom_2] at hs
      refine lv_iload_n hx hb dX4_copyFrom_2 rfl (lv_at hl 2 rfl) ?_
      refine lv_bipush (v := 12) hx hb dX4_copyFrom_3 (by decide) ?_
      refine lv_icmp_ge (tgt := 50) hx hb dX4_copyFrom_5 (by decide) (fun hc => ?_) (fun hc => ?_)
      · have hs := g_t hs hc
        refine lv_aload_n hx hb dX4_copyFrom_50 rfl (lv_at hl 0 rfl) ?_
        refine lv_aload_n hx hb dX4_copyFrom_51 rfl (lv_at hl 1 rfl) ?_
        refine va_get (D := D) (ci := 4) (v := .int (v a1 3)) (C := RX4) (T := TX4) (N := 6) hx hb hts iX4 hown hK.1 hP a1 (gW_4 hk1) rfl 3 (by decide) f21 (fun _ h9 => h9) rfl dX4_copyFrom_52 ?_
        refine va_put (D := D) (ci := 4) (v := .int (v a1 3)) (ty := .int) (C := RX4) (T := TX4) (N := 6) hx hb hts iX4 tyX4 tyX4_ok nmX4 hown hK.1 hP (gD hI) hS a0 (gW_4 hk0) rfl 3 (by decide) f21 (fun _ h9 => h9) rfl (by decide +kernel) rfl rfl (Nat.le_of_ble_eq_true rfl) dX4_copyFrom_55 (fun H locs hP _ hS => ?_)
        refine g_let hs (fun v_1 ev_1 hs => ?_)
        have hP : va_P D vwCl (gW cy ad v_1 u) H := gPset ((gS_4_3 hk0 (v a1 3)).trans (congrArg (fun z => gW cy ad z u) ev_1.symm)) hP
        refine lv_aload_n hx hb dX4_copyFrom_58 rfl (lv_at hl 0 rfl) ?_
        refine lv_aload_n hx hb dX4_copyFrom_59 rfl (lv_at hl 1 rfl) ?_
        refine va_get (D := D) (ci := 4) (v := .int (v_1 a1 4)) (C := RX4) (T := TX4) (N := 6) hx hb hts iX4 hown hK.1 hP a1 (gW_4 hk1) rfl 4 (by decide) f25 (fun _ h9 => h9) rfl dX4_copyFrom_60 ?_
        refine va_put (D := D) (ci := 4) (v := .int (v_1 a1 4)) (ty := .int) (C := RX4) (T := TX4) (N := 6) hx hb hts iX4 tyX4 tyX4_ok nmX4 hown hK.1 hP (gD hI) hS a0 (gW_4 hk0) rfl 4 (by decide) f25 (fun _ h9 => h9) rfl (by decide +kernel) rfl rfl (Nat.le_of_ble_eq_true rfl) dX4_copyFrom_63 (fun H locs hP _ hS => ?_)
        refine g_let hs (fun v_2 ev_2 hs => ?_)
        have hP : va_P D vwCl (gW cy ad v_2 u) H := gPset ((gS_4_4 hk0 (v_1 a1 4)).trans (congrArg (fun z => gW cy ad z u) ev_2.symm)) hP
        refine lv_aload_n hx hb dX4_copyFrom_66 rfl (lv_at hl 0 rfl) ?_
        refine lv_aload_n hx hb dX4_copyFrom_67 rfl (lv_at hl 1 rfl) ?_
        refine va_get (D := D) (ci := 4) (v := .int (v_2 a1 5)) (C := RX4) (T := TX4) (N := 6) hx hb hts iX4 hown hK.1 hP a1 (gW_4 hk1) rfl 5 (by decide) f28 (fun _ h9 => h9) rfl dX4_copyFrom_68 ?_
        refine va_put (D := D) (ci := 4) (v := .int (v_2 a1 5)) (ty := .int) (C := RX4) (T := TX4) (N := 6) hx hb hts iX4 tyX4 tyX4_ok nmX4 hown hK.1 hP (gD hI) hS a0 (gW_4 hk0) rfl 5 (by decide) f28 (fun _ h9 => h9) rfl (by decide +kernel) rfl rfl (Nat.le_of_ble_eq_true rfl) dX4_copyFrom_71 (fun H locs hP _ hS => ?_)
        refine g_let hs (fun v_3 ev_3 hs => ?_)
        have hP : va_P D vwCl (gW cy ad v_3 u) H := gPset ((gS_4_5 hk0 (v_2 a1 5)).trans (congrArg (fun z => gW cy ad z u) ev_3.symm)) hP
        exact gRet_v hx hb hr hlocks hK hP hS (g_some hs) dX4_copyFrom_74
      · have hs := g_f hs hc
        refine lv_aload_n hx hb dX4_copyFrom_8 rfl (lv_at hl 0 rfl) ?_
        refine va_get (D := D) (ci := 4) (v := .ref (ad (a0 + 1))) (C := RX4) (T := TX4) (N := 6) hx hb hts iX4 hown hK.1 hP a0 (gW_4 hk0) rfl 0 (by decide) f9 (fun _ h9 => h9) rfl dX4_copyFrom_9 ?_
        refine lv_iload_n hx hb dX4_copyFrom_12 rfl (lv_at hl 2 rfl) ?_
        refine lv_aload_n hx hb dX4_copyFrom_13 rfl (lv_at hl 1 rfl) ?_
        refine va_get (D := D) (ci := 4) (v := .ref (ad (a1 + 1))) (C := RX4) (T := TX4) (N := 6) hx hb hts iX4 hown hK.1 hP a1 (gW_4 hk1) rfl 0 (by decide) f9 (fun _ h9 => h9) rfl dX4_copyFrom_14 ?_
        refine lv_iload_n hx hb dX4_copyFrom_17 rfl (lv_at hl 2 rfl) ?_
        refine g_chk hs (fun hc hs => ?_)
        refine va_iald hx hb hK.1 hP (a1 + 1) 0 (gW_12 (kd_4_1 hk1)) rfl hc dX4_copyFrom_18 ?_
        refine g_chk hs (fun hc hs => ?_)
        refine va_iast hx hb hK.1 hP (gD hI) hS (a0 + 1) 0 (gW_12 (kd_4_1 hk0)) rfl hc dX4_copyFrom_19 (fun H locs hP _ hS => ?_)
        refine g_let hs (fun v_4 ev_4 hs => ?_)
        have hP : va_P D vwCl (gW cy ad v_4 u) H := gPset ((gS_12 (kd_4_1 hk0) w2.toNatClampNeg (v (a1 + 1) w2.toNatClampNeg)).trans (congrArg (fun z => gW cy ad z u) ev_4.symm)) hP
        refine lv_aload_n hx hb dX4_copyFrom_20 rfl (lv_at hl 0 rfl) ?_
        refine va_get (D := D) (ci := 4) (v := .ref (ad (a0 + 2))) (C := RX4) (T := TX4) (N := 6) hx hb hts iX4 hown hK.1 hP a0 (gW_4 hk0) rfl 1 (by decide) f15 (fun _ h9 => h9) rfl dX4_copyFrom_21 ?_
        refine lv_iload_n hx hb dX4_copyFrom_24 rfl (lv_at hl 2 rfl) ?_
        refine lv_aload_n hx hb dX4_copyFrom_25 rfl (lv_at hl 1 rfl) ?_
        refine va_get (D := D) (ci := 4) (v := .ref (ad (a1 + 2))) (C := RX4) (T := TX4) (N := 6) hx hb hts iX4 hown hK.1 hP a1 (gW_4 hk1) rfl 1 (by decide) f15 (fun _ h9 => h9) rfl dX4_copyFrom_26 ?_
        refine lv_iload_n hx hb dX4_copyFrom_29 rfl (lv_at hl 2 rfl) ?_
        refine g_chk hs (fun hc hs => ?_)
        refine va_iald hx hb hK.1 hP (a1 + 2) 0 (gW_12 (kd_4_2 hk1)) rfl hc dX4_copyFrom_30 ?_
        refine g_chk hs (fun hc hs => ?_)
        refine va_iast hx hb hK.1 hP (gD hI) hS (a0 + 2) 0 (gW_12 (kd_4_2 hk0)) rfl hc dX4_copyFrom_31 (fun H locs hP _ hS => ?_)
        refine g_let hs (fun v_5 ev_5 hs => ?_)
        have hP : va_P D vwCl (gW cy ad v_5 u) H := gPset ((gS_12 (kd_4_2 hk0) w2.toNatClampNeg (v_4 (a1 + 2) w2.toNatClampNeg)).trans (congrArg (fun z => gW cy ad z u) ev_5.symm)) hP
        refine lv_aload_n hx hb dX4_copyFrom_32 rfl (lv_at hl 0 rfl) ?_
        refine va_get (D := D) (ci := 4) (v := .ref (ad (a0 + 3))) (C := RX4) (T := TX4) (N := 6) hx hb hts iX4 hown hK.1 hP a0 (gW_4 hk0) rfl 2 (by decide) f18 (fun _ h9 => h9) rfl dX4_copyFrom_33 ?_
        refine lv_iload_n hx hb dX4_copyFrom_36 rfl (lv_at hl 2 rfl) ?_
        refine lv_aload_n hx hb dX4_copyFrom_37 rfl (lv_at hl 1 rfl) ?_
        refine va_get (D := D) (ci := 4) (v := .ref (ad (a1 + 3))) (C := RX4) (T := TX4) (N := 6) hx hb hts iX4 hown hK.1 hP a1 (gW_4 hk1) rfl 2 (by decide) f18 (fun _ h9 => h9) rfl dX4_copyFrom_38 ?_
        refine lv_iload_n hx hb dX4_copyFrom_41 rfl (lv_at hl 2 rfl) ?_
        refine g_chk hs (fun hc hs => ?_)
        refine va_iald hx hb hK.1 hP (a1 + 3) 0 (gW_12 (kd_4_3 hk1)) rfl hc dX4_copyFrom_42 ?_
        refine g_chk hs (fun hc hs => ?_)
        refine va_iast hx hb hK.1 hP (gD hI) hS (a0 + 3) 0 (gW_12 (kd_4_3 hk0)) rfl hc dX4_copyFrom_43 (fun H locs hP _ hS => ?_)
        refine g_let hs (fun v_6 ev_6 hs => ?_)
        have hP : va_P D vwCl (gW cy ad v_6 u) H := gPset ((gS_12 (kd_4_3 hk0) w2.toNatClampNeg (v_5 (a1 + 3) w2.toNatClampNeg)).trans (congrArg (fun z => gW cy ad z u) ev_6.symm)) hP
        refine lv_iinc (v := w2 + 1) (lv' := [(2, .int (w2 + 1)), (0, .ref (ad a0)), (1, .ref (ad a1))]) hx hb dX4_copyFrom_44 hl (k := 2) rfl rfl (by decide) rfl (fun ls hl => ?_)
        refine lv_goto (tgt := 2) hx hb dX4_copyFrom_47 (by decide) ?_
        exact ih v_6 (w2 + 1) _ _ _ hP hS (lv_sub hl [1, 2, 0] rfl) hs
  unfold sX4_copyFrom at hs
  refine lv_iconst (v := 0) hx hb dX4_copyFrom_0 (by decide) ?_
  refine lv_istore_n (lv' := [(2, .int 0), (0, .ref (ad a0)), (1, .ref (ad a1))]) hx hb dX4_copyFrom_1 rfl hl (by decide) rfl (fun ls hl => ?_)
  exact hL_2 n v 0 _ _ _ hP hS (lv_sub hl [1, 2, 0] rfl) hs
set_option maxHeartbeats 4000000 in
set_option maxRecDepth 100000 in
theorem cX3_copyFrom_c (l : Launch) (D : va_G) (cy : Nat → ClassId) (ad : Nat → Nat) (tL z0 : Nat) (hI : gI z0 ad) (n : Nat) (v : gV) (u : Int64) (a0 : Nat) (a1 : Nat) (v1 : gV) (hk0 : kd a0 = 3) (hk1 : kd a1 = 3) (hs : sX3_copyFrom n v a0 a1 = some v1) : Met l yX3_copyFrom wsX3_copyFrom ({ frames := 1, cells := 0, slots := 0, locals := 22 } : Room) (gPc D cy ad tL z0 v u [.ref (ad a0), .ref (ad a1)]) (gQv D cy ad tL z0 v1 u) 0 0 (gA z0) := by
  refine Met.ofW (cc := cX3_copyFrom) (maxL := 2) (ret := none) (by decide) rfl ?_
  intro p e s m args below meth c s₁ B hml hv
  obtain ⟨rfl, hB0⟩ := hv
  have hP : va_P D vwCl (gW cy ad v u) s.heap := hB0.1
  have hK : gK D cy tL z0 s s.heap := hB0.2
  have hx := B.exec
  have hb := B.bytes
  have hr := B.returns
  have hts := atoms_spec (ws := wsX3_copyFrom) B.pre
  have hown : s.vm.findClass RX3 = some m.cls := findClass_of_methodNamed B.named
  have hlocks := B.notSynchronized
  have hS : va_S (gA z0) s.heap s.heap [] := va_S.rf
  have hl := lv_entry ([.ref (ad a0), .ref (ad a1)]) (n := 2) (Nat.le_of_ble_eq_true rfl)
  rw [lg_entry_eq]
  generalize (lg_sl ([.ref (ad a0), .ref (ad a1)]) ++ List.replicate (2 - (lg_sl ([.ref (ad a0), .ref (ad a1)])).length) Slot.unset).toArray = ls at hl ⊢
  have hl : lv_has ls 2 [(0, .ref (ad a0)), (1, .ref (ad a1))] := hl
  have iX3 := (show ∀ w ∈ u_ws RX3 TX3 9, w ∈ wsX3_copyFrom by decide +kernel)
  have f12 := hts (.fieldLink RX3 12 "AdventureParser$State" "world" "LAdventureParser$World;") (by decide +kernel)
  have f21 := hts (.fieldLink RX3 21 "AdventureParser$State" "command" "LAdventureParser$Command;") (by decide +kernel)
  have f25 := hts (.fieldLink RX3 25 "AdventureParser$State" "single" "I") (by decide +kernel)
  have f39 := hts (.fieldLink RX3 39 "AdventureParser$State" "several" "I") (by decide +kernel)
  have f42 := hts (.fieldLink RX3 42 "AdventureParser$State" "executed" "I") (by decide +kernel)
  have f45 := hts (.fieldLink RX3 45 "AdventureParser$State" "failed" "I") (by decide +kernel)
  have f48 := hts (.fieldLink RX3 48 "AdventureParser$State" "asked" "I") (by decide +kernel)
  have f51 := hts (.fieldLink RX3 51 "AdventureParser$State" "candidates" "I") (by decide +kernel)
  have f29 := hts (.fieldLink RX3 29 "AdventureParser$State" "questionSlot" "I") (by decide +kernel)
  clear hB0
  unfold sX3_copyFrom at hs
  refine lv_aload_n hx hb dX3_copyFrom_0 rfl (lv_at hl 0 rfl) ?_
  refine va_get (D := D) (ci := 3) (v := .ref (ad (a0 + 1))) (C := RX3) (T := TX3) (N := 9) hx hb hts iX3 hown hK.1 hP a0 (gW_3 hk0) rfl 0 (by decide) f12 (fun _ h9 => h9) rfl dX3_copyFrom_1 ?_
  refine lv_aload_n hx hb dX3_copyFrom_4 rfl (lv_at hl 1 rfl) ?_
  refine va_get (D := D) (ci := 3) (v := .ref (ad (a1 + 1))) (C := RX3) (T := TX3) (N := 9) hx hb hts iX3 hown hK.1 hP a1 (gW_3 hk1) rfl 0 (by decide) f12 (fun _ h9 => h9) rfl dX3_copyFrom_5 ?_
  refine g_bind hs (fun q_1 hq_1 hs => ?_)
  refine gCV_v (As := [.ref (ad (a1 + 1))]) (rest := []) ⟨hx, hb, hml, hown, hts⟩ (cX4_copyFrom_c l D cy ad tL z0 hI n v u (a0 + 1) (a1 + 1) q_1 (kd_3_1 hk0) (kd_3_1 hk1) hq_1) (cwV 1 hts gX3_copyFrom_X4_copyFrom rfl rfl rfl (by decide +kernel) ⟨Nat.le_of_ble_eq_true rfl, Nat.le_of_ble_eq_true rfl⟩) hK hP hS (va_recv hK.1 hP (ci := 4) (q0 := a0 + 1) rfl (gW_4 (kd_3_1 hk0))) hl.1 rfl rfl (Nat.le_of_ble_eq_true rfl) dX3_copyFrom_8 ⟨Nat.zero_le _, Nat.zero_le _⟩ (fun H locs hP hS => ?_)
  refine lv_aload_n hx hb dX3_copyFrom_11 rfl (lv_at hl 0 rfl) ?_
  refine va_get (D := D) (ci := 3) (v := .ref (ad (a0 + 5))) (C := RX3) (T := TX3) (N := 9) hx hb hts iX3 hown hK.1 hP a0 (gW_3 hk0) rfl 1 (by decide) f21 (fun _ h9 => h9) rfl dX3_copyFrom_12 ?_
  refine lv_aload_n hx hb dX3_copyFrom_15 rfl (lv_at hl 1 rfl) ?_
  refine va_get (D := D) (ci := 3) (v := .ref (ad (a1 + 5))) (C := RX3) (T := TX3) (N := 9) hx hb hts iX3 hown hK.1 hP a1 (gW_3 hk1) rfl 1 (by decide) f21 (fun _ h9 => h9) rfl dX3_copyFrom_16 ?_
  refine g_bind hs (fun q_2 hq_2 hs => ?_)
  refine gCV_v (As := [.ref (ad (a1 + 5))]) (rest := []) ⟨hx, hb, hml, hown, hts⟩ (cX1_copyFrom_c l D cy ad tL z0 hI n q_1 u (a0 + 5) (a1 + 5) q_2 (kd_3_5 hk0) (kd_3_5 hk1) hq_2) (cwV 1 hts gX3_copyFrom_X1_copyFrom rfl rfl rfl (by decide +kernel) ⟨Nat.le_of_ble_eq_true rfl, Nat.le_of_ble_eq_true rfl⟩) hK hP hS (va_recv hK.1 hP (ci := 1) (q0 := a0 + 5) rfl (gW_1 (kd_3_5 hk0))) hl.1 rfl rfl (Nat.le_of_ble_eq_true rfl) dX3_copyFrom_19 ⟨Nat.zero_le _, Nat.zero_le _⟩ (fun H locs hP hS => ?_)
  refine lv_aload_n hx hb dX3_copyFrom_22 rfl (lv_at hl 0 rfl) ?_
  refine lv_aload_n hx hb dX3_copyFrom_23 rfl (lv_at hl 1 rfl) ?_
  refine va_get (D := D) (ci := 3) (v := .int (q_2 a1 2)) (C := RX3) (T := TX3) (N := 9) hx hb hts iX3 hown hK.1 hP a1 (gW_3 hk1) rfl 2 (by decide) f25 (fun _ h9 => h9) rfl dX3_copyFrom_24 ?_
  refine va_put (D := D) (ci := 3) (v := .int (q_2 a1 2)) (ty := .int) (C := RX3) (T := TX3) (N := 9) hx hb hts iX3 tyX3 tyX3_ok nmX3 hown hK.1 hP (gD hI) hS a0 (gW_3 hk0) rfl 2 (by decide) f25 (fun _ h9 => h9) rfl (by decide +kernel) rfl rfl (Nat.le_of_ble_eq_true rfl) dX3_copyFrom_27 (fun H locs hP _ hS => ?_)
  refine g_let hs (fun v_3 ev_3 hs => ?_)
  have hP : va_P D vwCl (gW cy ad v_3 u) H := gPset ((gS_3_2 hk0 (q_2 a1 2)).trans (congrArg (fun z => gW cy ad z u) ev_3.symm)) hP
  refine lv_aload_n hx hb dX3_copyFrom_30 rfl (lv_at hl 0 rfl) ?_
  refine lv_aload_n hx hb dX3_copyFrom_31 rfl (lv_at hl 1 rfl) ?_
  refine va_get (D := D) (ci := 3) (v := .int (v_3 a1 3)) (C := RX3) (T := TX3) (N := 9) hx hb hts iX3 hown hK.1 hP a1 (gW_3 hk1) rfl 3 (by decide) f39 (fun _ h9 => h9) rfl dX3_copyFrom_32 ?_
  refine va_put (D := D) (ci := 3) (v := .int (v_3 a1 3)) (ty := .int) (C := RX3) (T := TX3) (N := 9) hx hb hts iX3 tyX3 tyX3_ok nmX3 hown hK.1 hP (gD hI) hS a0 (gW_3 hk0) rfl 3 (by decide) f39 (fun _ h9 => h9) rfl (by decide +kernel) rfl rfl (Nat.le_of_ble_eq_true rfl) dX3_copyFrom_35 (fun H locs hP _ hS => ?_)
  refine g_let hs (fun v_4 ev_4 hs => ?_)
  have hP : va_P D vwCl (gW cy ad v_4 u) H := gPset ((gS_3_3 hk0 (v_3 a1 3)).trans (congrArg (fun z => gW cy ad z u) ev_4.symm)) hP
  refine lv_aload_n hx hb dX3_copyFrom_38 rfl (lv_at hl 0 rfl) ?_
  refine lv_aload_n hx hb dX3_copyFrom_39 rfl (lv_at hl 1 rfl) ?_
  refine va_get (D := D) (ci := 3) (v := .int (v_4 a1 4)) (C := RX3) (T := TX3) (N := 9) hx hb hts iX3 hown hK.1 hP a1 (gW_3 hk1) rfl 4 (by decide) f42 (fun _ h9 => h9) rfl dX3_copyFrom_40 ?_
  refine va_put (D := D) (ci := 3) (v := .int (v_4 a1 4)) (ty := .int) (C := RX3) (T := TX3) (N := 9) hx hb hts iX3 tyX3 tyX3_ok nmX3 hown hK.1 hP (gD hI) hS a0 (gW_3 hk0) rfl 4 (by decide) f42 (fun _ h9 => h9) rfl (by decide +kernel) rfl rfl (Nat.le_of_ble_eq_true rfl) dX3_copyFrom_43 (fun H locs hP _ hS => ?_)
  refine g_let hs (fun v_5 ev_5 hs => ?_)
  have hP : va_P D vwCl (gW cy ad v_5 u) H := gPset ((gS_3_4 hk0 (v_4 a1 4)).trans (congrArg (fun z => gW cy ad z u) ev_5.symm)) hP
  refine lv_aload_n hx hb dX3_copyFrom_46 rfl (lv_at hl 0 rfl) ?_
  refine lv_aload_n hx hb dX3_copyFrom_47 rfl (lv_at hl 1 rfl) ?_
  refine va_get (D := D) (ci := 3) (v := .int (v_5 a1 5)) (C := RX3) (T := TX3) (N := 9) hx hb hts iX3 hown hK.1 hP a1 (gW_3 hk1) rfl 5 (by decide) f45 (fun _ h9 => h9) rfl dX3_copyFrom_48 ?_
  refine va_put (D := D) (ci := 3) (v := .int (v_5 a1 5)) (ty := .int) (C := RX3) (T := TX3) (N := 9) hx hb hts iX3 tyX3 tyX3_ok nmX3 hown hK.1 hP (gD hI) hS a0 (gW_3 hk0) rfl 5 (by decide) f45 (fun _ h9 => h9) rfl (by decide +kernel) rfl rfl (Nat.le_of_ble_eq_true rfl) dX3_copyFrom_51 (fun H locs hP _ hS => ?_)
  refine g_let hs (fun v_6 ev_6 hs => ?_)
  have hP : va_P D vwCl (gW cy ad v_6 u) H := gPset ((gS_3_5 hk0 (v_5 a1 5)).trans (congrArg (fun z => gW cy ad z u) ev_6.symm)) hP
  refine lv_aload_n hx hb dX3_copyFrom_54 rfl (lv_at hl 0 rfl) ?_
  refine lv_aload_n hx hb dX3_copyFrom_55 rfl (lv_at hl 1 rfl) ?_
  refine va_get (D := D) (ci := 3) (v := .int (v_6 a1 6)) (C := RX3) (T := TX3) (N := 9) hx hb hts iX3 hown hK.1 hP a1 (gW_3 hk1) rfl 6 (by decide) f48 (fun _ h9 => h9) rfl dX3_copyFrom_56 ?_
  refine va_put (D := D) (ci := 3) (v := .int (v_6 a1 6)) (ty := .int) (C := RX3) (T := TX3) (N := 9) hx hb hts iX3 tyX3 tyX3_ok nmX3 hown hK.1 hP (gD hI) hS a0 (gW_3 hk0) rfl 6 (by decide) f48 (fun _ h9 => h9) rfl (by decide +kernel) rfl rfl (Nat.le_of_ble_eq_true rfl) dX3_copyFrom_59 (fun H locs hP _ hS => ?_)
  refine g_let hs (fun v_7 ev_7 hs => ?_)
  have hP : va_P D vwCl (gW cy ad v_7 u) H := gPset ((gS_3_6 hk0 (v_6 a1 6)).trans (congrArg (fun z => gW cy ad z u) ev_7.symm)) hP
  refine lv_aload_n hx hb dX3_copyFrom_62 rfl (lv_at hl 0 rfl) ?_
  refine lv_aload_n hx hb dX3_copyFrom_63 rfl (lv_at hl 1 rfl) ?_
  refine va_get (D := D) (ci := 3) (v := .int (v_7 a1 7)) (C := RX3) (T := TX3) (N := 9) hx hb hts iX3 hown hK.1 hP a1 (gW_3 hk1) rfl 7 (by decide) f51 (fun _ h9 => h9) rfl dX3_copyFrom_64 ?_
  refine va_put (D := D) (ci := 3) (v := .int (v_7 a1 7)) (ty := .int) (C := RX3) (T := TX3) (N := 9) hx hb hts iX3 tyX3 tyX3_ok nmX3 hown hK.1 hP (gD hI) hS a0 (gW_3 hk0) rfl 7 (by decide) f51 (fun _ h9 => h9) rfl (by decide +kernel) rfl rfl (Nat.le_of_ble_eq_true rfl) dX3_copyFrom_67 (fun H locs hP _ hS => ?_)
  refine g_let hs (fun v_8 ev_8 hs => ?_)
  have hP : va_P D vwCl (gW cy ad v_8 u) H := gPset ((gS_3_7 hk0 (v_7 a1 7)).trans (congrArg (fun z => gW cy ad z u) ev_8.symm)) hP
  refine lv_aload_n hx hb dX3_copyFrom_70 rfl (lv_at hl 0 rfl) ?_
  refine lv_aload_n hx hb dX3_copyFrom_71 rfl (lv_at hl 1 rfl) ?_
  refine va_get (D := D) (ci := 3) (v := .int (v_8 a1 8)) (C := RX3) (T := TX3) (N := 9) hx hb hts iX3 hown hK.1 hP a1 (gW_3 hk1) rfl 8 (by decide) f29 (fun _ h9 => h9) rfl dX3_copyFrom_72 ?_
  refine va_put (D := D) (ci := 3) (v := .int (v_8 a1 8)) (ty := .int) (C := RX3) (T := TX3) (N := 9) hx hb hts iX3 tyX3 tyX3_ok nmX3 hown hK.1 hP (gD hI) hS a0 (gW_3 hk0) rfl 8 (by decide) f29 (fun _ h9 => h9) rfl (by decide +kernel) rfl rfl (Nat.le_of_ble_eq_true rfl) dX3_copyFrom_75 (fun H locs hP _ hS => ?_)
  refine g_let hs (fun v_9 ev_9 hs => ?_)
  have hP : va_P D vwCl (gW cy ad v_9 u) H := gPset ((gS_3_8 hk0 (v_8 a1 8)).trans (congrArg (fun z => gW cy ad z u) ev_9.symm)) hP
  exact gRet_v hx hb hr hlocks hK hP hS (g_some hs) dX3_copyFrom_78
