set_option maxHeartbeats 4000000 in
set_option maxRecDepth 100000 in
theorem cX4_add_c (l : Launch) (D : va_G) (cy : Nat → ClassId) (ad : Nat → Nat) (tL z0 : Nat) (hI : gI z0 ad) (v : gV) (u : Int64) (a0 : Nat) (x1 : Int32) (x2 : Int32) (x3 : Int32) (r0 : Int32) (v1 : gV) (hk0 : kd a0 = 4) (hs : sX4_add v a0 x1 x2 x3 = some (r0, v1)) : Met l yX4_add wsX4_add ({ frames := 0, cells := 0, slots := 0, locals := 0 } : Room) (gPc D cy ad tL z0 v u [.ref (ad a0), .int x1, .int x2, .int x3]) (gQi D cy ad tL z0 v1 u r0) 0 0 (gA z0) := by
  refine Met.ofW (cc := cX4_add) (maxL := 5) (ret := (some .int)) (by decide) rfl ?_
  intro p e s m args below meth c s₁ B hml hv
  obtain ⟨rfl, hB0⟩ := hv
  have hP : va_P D vwCl (gW cy ad v u) s.heap := hB0.1
  have hK : gK D cy tL z0 s s.heap := hB0.2
  have hx := B.exec
  have hb := B.bytes
  have hr := B.returns
  have hts := atoms_spec (ws := wsX4_add) B.pre
  have hown : s.vm.findClass RX4 = some m.cls := findClass_of_methodNamed B.named
  have hlocks := B.notSynchronized
  have hS : va_S (gA z0) s.heap s.heap [] := va_S.rf
  have hl := lv_entry ([.ref (ad a0), .int x1, .int x2, .int x3]) (n := 5) (Nat.le_of_ble_eq_true rfl)
  rw [lg_entry_eq]
  generalize (lg_sl ([.ref (ad a0), .int x1, .int x2, .int x3]) ++ List.replicate (5 - (lg_sl ([.ref (ad a0), .int x1, .int x2, .int x3])).length) Slot.unset).toArray = ls at hl ⊢
  have hl : lv_has ls 5 [(0, .ref (ad a0)), (1, .int x1), (2, .int x2), (3, .int x3)] := hl
  have iX4 := (show ∀ w ∈ u_ws RX4 TX4 6, w ∈ wsX4_add by decide +kernel)
  have f21 := hts (.fieldLink RX4 21 "AdventureParser$World" "count" "I") (by decide +kernel)
  have f9 := hts (.fieldLink RX4 9 "AdventureParser$World" "nouns" "[I") (by decide +kernel)
  have f15 := hts (.fieldLink RX4 15 "AdventureParser$World" "adjectives" "[I") (by decide +kernel)
  have f18 := hts (.fieldLink RX4 18 "AdventureParser$World" "places" "[I") (by decide +kernel)
  clear hB0
  unfold sX4_add at hs
  refine lv_aload_n hx hb dX4_add_0 rfl (lv_at hl 0 rfl) ?_
  refine va_get (D := D) (ci := 4) (v := .int (v a0 3)) (C := RX4) (T := TX4) (N := 6) hx hb hts iX4 hown hK.1 hP a0 (gW_4 hk0) rfl 3 (by decide) f21 (fun _ h9 => h9) rfl dX4_add_1 ?_
  refine lv_istore (lv' := [(4, .int (v a0 3)), (0, .ref (ad a0)), (1, .int x1), (2, .int x2), (3, .int x3)]) hx hb dX4_add_4 hl (by decide) rfl (fun ls hl => ?_)
  refine lv_iload hx hb dX4_add_6 (lv_at hl 0 rfl) ?_
  refine lv_if_lt (tgt := 52) hx hb dX4_add_8 (by decide) (fun hc => ?_) (fun hc => ?_)
  · have hs := g_t hs hc
    refine lv_iload hx hb dX4_add_52 (lv_at hl 0 rfl) ?_
    exact gRet_i hx hb hr hlocks hK hP hS (g_some2 hs) dX4_add_54
  · have hs := g_f hs hc
    refine lv_iload hx hb dX4_add_11 (lv_at hl 0 rfl) ?_
    refine lv_bipush (v := 12) hx hb dX4_add_13 (by decide) ?_
    refine lv_icmp_ge (tgt := 52) hx hb dX4_add_15 (by decide) (fun hc => ?_) (fun hc => ?_)
    · have hs := g_t hs hc
      refine lv_iload hx hb dX4_add_52 (lv_at hl 0 rfl) ?_
      exact gRet_i hx hb hr hlocks hK hP hS (g_some2 hs) dX4_add_54
    · have hs := g_f hs hc
      refine lv_aload_n hx hb dX4_add_18 rfl (lv_at hl 1 rfl) ?_
      refine va_get (D := D) (ci := 4) (v := .ref (ad (a0 + 1))) (C := RX4) (T := TX4) (N := 6) hx hb hts iX4 hown hK.1 hP a0 (gW_4 hk0) rfl 0 (by decide) f9 (fun _ h9 => h9) rfl dX4_add_19 ?_
      refine lv_iload hx hb dX4_add_22 (lv_at hl 0 rfl) ?_
      refine lv_iload_n hx hb dX4_add_24 rfl (lv_at hl 2 rfl) ?_
      refine g_chk hs (fun hc hs => ?_)
      refine va_iast hx hb hK.1 hP (gD hI) hS (a0 + 1) 0 (gW_12 (kd_4_1 hk0)) rfl hc dX4_add_25 (fun H locs hP _ hS => ?_)
      refine g_let hs (fun v_1 ev_1 hs => ?_)
      have hP : va_P D vwCl (gW cy ad v_1 u) H := gPset ((gS_12 (kd_4_1 hk0) (v a0 3).toNatClampNeg x1).trans (congrArg (fun z => gW cy ad z u) ev_1.symm)) hP
      refine lv_aload_n hx hb dX4_add_26 rfl (lv_at hl 1 rfl) ?_
      refine va_get (D := D) (ci := 4) (v := .ref (ad (a0 + 2))) (C := RX4) (T := TX4) (N := 6) hx hb hts iX4 hown hK.1 hP a0 (gW_4 hk0) rfl 1 (by decide) f15 (fun _ h9 => h9) rfl dX4_add_27 ?_
      refine lv_iload hx hb dX4_add_30 (lv_at hl 0 rfl) ?_
      refine lv_iload_n hx hb dX4_add_32 rfl (lv_at hl 3 rfl) ?_
      refine g_chk hs (fun hc hs => ?_)
      refine va_iast hx hb hK.1 hP (gD hI) hS (a0 + 2) 0 (gW_12 (kd_4_2 hk0)) rfl hc dX4_add_33 (fun H locs hP _ hS => ?_)
      refine g_let hs (fun v_2 ev_2 hs => ?_)
      have hP : va_P D vwCl (gW cy ad v_2 u) H := gPset ((gS_12 (kd_4_2 hk0) (v a0 3).toNatClampNeg x2).trans (congrArg (fun z => gW cy ad z u) ev_2.symm)) hP
      refine lv_aload_n hx hb dX4_add_34 rfl (lv_at hl 1 rfl) ?_
      refine va_get (D := D) (ci := 4) (v := .ref (ad (a0 + 3))) (C := RX4) (T := TX4) (N := 6) hx hb hts iX4 hown hK.1 hP a0 (gW_4 hk0) rfl 2 (by decide) f18 (fun _ h9 => h9) rfl dX4_add_35 ?_
      refine lv_iload hx hb dX4_add_38 (lv_at hl 0 rfl) ?_
      refine lv_iload_n hx hb dX4_add_40 rfl (lv_at hl 4 rfl) ?_
      refine g_chk hs (fun hc hs => ?_)
      refine va_iast hx hb hK.1 hP (gD hI) hS (a0 + 3) 0 (gW_12 (kd_4_3 hk0)) rfl hc dX4_add_41 (fun H locs hP _ hS => ?_)
      refine g_let hs (fun v_3 ev_3 hs => ?_)
      have hP : va_P D vwCl (gW cy ad v_3 u) H := gPset ((gS_12 (kd_4_3 hk0) (v a0 3).toNatClampNeg x3).trans (congrArg (fun z => gW cy ad z u) ev_3.symm)) hP
      refine lv_aload_n hx hb dX4_add_42 rfl (lv_at hl 1 rfl) ?_
      refine lv_dup hx hb dX4_add_43 rfl ?_
      refine va_get (D := D) (ci := 4) (v := .int (v_3 a0 3)) (C := RX4) (T := TX4) (N := 6) hx hb hts iX4 hown hK.1 hP a0 (gW_4 hk0) rfl 3 (by decide) f21 (fun _ h9 => h9) rfl dX4_add_44 ?_
      refine lv_iconst (v := 1) hx hb dX4_add_47 (by decide) ?_
      refine lv_iadd hx hb dX4_add_48 ?_
      refine va_put (D := D) (ci := 4) (v := .int ((v_3 a0 3) + 1)) (ty := .int) (C := RX4) (T := TX4) (N := 6) hx hb hts iX4 tyX4 tyX4_ok nmX4 hown hK.1 hP (gD hI) hS a0 (gW_4 hk0) rfl 3 (by decide) f21 (fun _ h9 => h9) rfl (by decide +kernel) rfl rfl (Nat.le_of_ble_eq_true rfl) dX4_add_49 (fun H locs hP _ hS => ?_)
      refine g_let hs (fun v_4 ev_4 hs => ?_)
      have hP : va_P D vwCl (gW cy ad v_4 u) H := gPset ((gS_4_3 hk0 ((v_3 a0 3) + 1)).trans (congrArg (fun z => gW cy ad z u) ev_4.symm)) hP
      refine lv_iload hx hb dX4_add_52 (lv_at hl 0 rfl) ?_
      exact gRet_i hx hb hr hlocks hK hP hS (g_some2 hs) dX4_add_54
set_option maxHeartbeats 4000000 in
set_option maxRecDepth 100000 in
theorem cX5_isContainerNoun_c (l : Launch) (D : va_G) (cy : Nat → ClassId) (ad : Nat → Nat) (tL z0 : Nat) (hI : gI z0 ad) (v : gV) (u : Int64) (x0 : Int32) (r0 : Int32) (hs : sX5_isContainerNoun x0 = some r0) : Met l yX5_isContainerNoun wsX5_isContainerNoun ({ frames := 0, cells := 0, slots := 0, locals := 0 } : Room) (gPc D cy ad tL z0 v u [.int x0]) (gQi D cy ad tL z0 v u r0) 0 0 (gA z0) := by
  refine Met.ofW (cc := cX5_isContainerNoun) (maxL := 1) (ret := (some .boolean)) (by decide) rfl ?_
  intro p e s m args below meth c s₁ B hml hv
  obtain ⟨rfl, hB0⟩ := hv
  have hP : va_P D vwCl (gW cy ad v u) s.heap := hB0.1
  have hK : gK D cy tL z0 s s.heap := hB0.2
  have hx := B.exec
  have hb := B.bytes
  have hr := B.returns
  have hts := atoms_spec (ws := wsX5_isContainerNoun) B.pre
  have hown : s.vm.findClass RX5 = some m.cls := findClass_of_methodNamed B.named
  have hlocks := B.notSynchronized
  have hS : va_S (gA z0) s.heap s.heap [] := va_S.rf
  have hl := lv_entry ([.int x0]) (n := 1) (Nat.le_of_ble_eq_true rfl)
  rw [lg_entry_eq]
  generalize (lg_sl ([.int x0]) ++ List.replicate (1 - (lg_sl ([.int x0])).length) Slot.unset).toArray = ls at hl ⊢
  have hl : lv_has ls 1 [(0, .int x0)] := hl
  clear hB0
  unfold sX5_isContainerNoun at hs
  refine lv_iload_n hx hb dX5_isContainerNoun_0 rfl (lv_at hl 0 rfl) ?_
  refine lv_iconst (v := 1) hx hb dX5_isContainerNoun_1 (by decide) ?_
  refine lv_icmp_eq (tgt := 10) hx hb dX5_isContainerNoun_2 (by decide) (fun hc => ?_) (fun hc => ?_)
  · have hs := g_t hs hc
    refine lv_iconst (v := 1) hx hb dX5_isContainerNoun_10 (by decide) ?_
    refine lv_goto (tgt := 15) hx hb dX5_isContainerNoun_11 (by decide) ?_
    exact gRet_z hx hb hr hlocks rfl hK hP hS ⟨g_some hs, rfl⟩ dX5_isContainerNoun_15
  · have hs := g_f hs hc
    refine lv_iload_n hx hb dX5_isContainerNoun_5 rfl (lv_at hl 0 rfl) ?_
    refine lv_iconst (v := 5) hx hb dX5_isContainerNoun_6 (by decide) ?_
    refine lv_icmp_ne (tgt := 14) hx hb dX5_isContainerNoun_7 (by decide) (fun hc => ?_) (fun hc => ?_)
    · have hs := g_f hs hc
      refine lv_iconst (v := 0) hx hb dX5_isContainerNoun_14 (by decide) ?_
      exact gRet_z hx hb hr hlocks rfl hK hP hS ⟨g_some hs, rfl⟩ dX5_isContainerNoun_15
    · have hs := g_t hs hc
      refine lv_iconst (v := 1) hx hb dX5_isContainerNoun_10 (by decide) ?_
      refine lv_goto (tgt := 15) hx hb dX5_isContainerNoun_11 (by decide) ?_
      exact gRet_z hx hb hr hlocks rfl hK hP hS ⟨g_some hs, rfl⟩ dX5_isContainerNoun_15
set_option maxHeartbeats 4000000 in
set_option maxRecDepth 100000 in
theorem cX4_hasPlace_c (l : Launch) (D : va_G) (cy : Nat → ClassId) (ad : Nat → Nat) (tL z0 : Nat) (hI : gI z0 ad) (v : gV) (u : Int64) (a0 : Nat) (x1 : Int32) (r0 : Int32) (hk0 : kd a0 = 4) (hs : sX4_hasPlace v a0 x1 = some r0) : Met l yX4_hasPlace wsX4_hasPlace ({ frames := 1, cells := 0, slots := 0, locals := 21 } : Room) (gPc D cy ad tL z0 v u [.ref (ad a0), .int x1]) (gQi D cy ad tL z0 v u r0) 0 0 (gA z0) := by
  refine Met.ofW (cc := cX4_hasPlace) (maxL := 3) (ret := (some .boolean)) (by decide) rfl ?_
  intro p e s m args below meth c s₁ B hml hv
  obtain ⟨rfl, hB0⟩ := hv
  have hP : va_P D vwCl (gW cy ad v u) s.heap := hB0.1
  have hK : gK D cy tL z0 s s.heap := hB0.2
  have hx := B.exec
  have hb := B.bytes
  have hr := B.returns
  have hts := atoms_spec (ws := wsX4_hasPlace) B.pre
  have hown : s.vm.findClass RX4 = some m.cls := findClass_of_methodNamed B.named
  have hlocks := B.notSynchronized
  have hS : va_S (gA z0) s.heap s.heap [] := va_S.rf
  have hl := lv_entry ([.ref (ad a0), .int x1]) (n := 3) (Nat.le_of_ble_eq_true rfl)
  rw [lg_entry_eq]
  generalize (lg_sl ([.ref (ad a0), .int x1]) ++ List.replicate (3 - (lg_sl ([.ref (ad a0), .int x1])).length) Slot.unset).toArray = ls at hl ⊢
  have hl : lv_has ls 3 [(0, .ref (ad a0)), (1, .int x1)] := hl
  have iX4 := (show ∀ w ∈ u_ws RX4 TX4 6, w ∈ wsX4_hasPlace by decide +kernel)
  have f9 := hts (.fieldLink RX4 9 "AdventureParser$World" "nouns" "[I") (by decide +kernel)
  have stX5_isContainerNoun := hts (.static yX5_isContainerNoun) (by decide +kernel)
  have inX5 := hts (.initialized RX5) (by decide +kernel)
  have stX5_isRoom := hts (.static yX5_isRoom) (by decide +kernel)
  clear hB0
  unfold sX4_hasPlace at hs
  refine lv_iload_n hx hb dX4_hasPlace_0 rfl (lv_at hl 1 rfl) ?_
  refine lv_iconst (v := 5) hx hb dX4_hasPlace_1 (by decide) ?_
  refine lv_icmp_ge (tgt := 23) hx hb dX4_hasPlace_2 (by decide) (fun hc => ?_) (fun hc => ?_)
  · have hs := g_t hs hc
    refine lv_iload_n hx hb dX4_hasPlace_23 rfl (lv_at hl 1 rfl) ?_
    refine lv_iconst (v := 5) hx hb dX4_hasPlace_24 (by decide) ?_
    refine lv_isub hx hb dX4_hasPlace_25 ?_
    refine lv_istore_n (lv' := [(2, .int (x1 - 5)), (0, .ref (ad a0)), (1, .int x1)]) hx hb dX4_hasPlace_26 rfl hl (by decide) rfl (fun ls hl => ?_)
    refine lv_aload_n hx hb dX4_hasPlace_27 rfl (lv_at hl 1 rfl) ?_
    refine lv_iload_n hx hb dX4_hasPlace_28 rfl (lv_at hl 0 rfl) ?_
    refine g_bind hs (fun q_1 hq_1 hs => ?_)
    refine gCV_i (As := [.int (x1 - 5)]) (rest := []) ⟨hx, hb, hml, hown, hts⟩ (cX4_exists_c l D cy ad tL z0 hI v u a0 (x1 - 5) q_1 hk0 hq_1) (cwV 1 hts gX4_hasPlace_X4_exists rfl rfl rfl (by decide +kernel) ⟨Nat.le_of_ble_eq_true rfl, Nat.le_of_ble_eq_true rfl⟩) hK hP hS (va_recv hK.1 hP (ci := 4) (q0 := a0) rfl (gW_4 hk0)) hl.1 rfl rfl (Nat.le_of_ble_eq_true rfl) dX4_hasPlace_29 ⟨Nat.zero_le _, Nat.zero_le _⟩ (fun H locs hP hS => ?_)
    refine lv_if_eq (tgt := 51) hx hb dX4_hasPlace_32 (by decide) (fun hc => ?_) (fun hc => ?_)
    · have hs := g_t hs hc
      refine lv_iconst (v := 0) hx hb dX4_hasPlace_51 (by decide) ?_
      exact gRet_z hx hb hr hlocks rfl hK hP hS ⟨g_some hs, rfl⟩ dX4_hasPlace_52
    · have hs := g_f hs hc
      refine lv_aload_n hx hb dX4_hasPlace_35 rfl (lv_at hl 1 rfl) ?_
      refine va_get (D := D) (ci := 4) (v := .ref (ad (a0 + 1))) (C := RX4) (T := TX4) (N := 6) hx hb hts iX4 hown hK.1 hP a0 (gW_4 hk0) rfl 0 (by decide) f9 (fun _ h9 => h9) rfl dX4_hasPlace_36 ?_
      refine lv_iload_n hx hb dX4_hasPlace_39 rfl (lv_at hl 0 rfl) ?_
      refine g_chk hs (fun hc hs => ?_)
      refine va_iald hx hb hK.1 hP (a0 + 1) 0 (gW_12 (kd_4_1 hk0)) rfl hc dX4_hasPlace_40 ?_
      refine g_bind hs (fun q_2 hq_2 hs => ?_)
      refine gCN_i (As := [.int (v (a0 + 1) (x1 - 5).toNatClampNeg)]) (rest := []) ⟨hx, hb, hml, hown, hts⟩ (cX5_isContainerNoun_c l D cy ad tL z0 hI v u (v (a0 + 1) (x1 - 5).toNatClampNeg) q_2 hq_2) (va_cnB (host := RX5) 1 hts gX4_hasPlace_X5_isContainerNoun_n38 rfl rfl rfl (hK.2.2.2.1 _ (List.mem_of_getElem? (i := 0) rfl)) inX5 (by decide +kernel) ⟨Nat.le_of_ble_eq_true rfl, Nat.le_of_ble_eq_true rfl⟩) stX5_isContainerNoun hK hP hS hl.1 rfl rfl (Nat.le_of_ble_eq_true rfl) dX4_hasPlace_41 ⟨Nat.zero_le _, Nat.zero_le _⟩ (fun H locs hP hS => ?_)
      refine lv_if_eq (tgt := 51) hx hb dX4_hasPlace_44 (by decide) (fun hc => ?_) (fun hc => ?_)
      · have hs := g_t hs hc
        refine lv_iconst (v := 0) hx hb dX4_hasPlace_51 (by decide) ?_
        exact gRet_z hx hb hr hlocks rfl hK hP hS ⟨g_some hs, rfl⟩ dX4_hasPlace_52
      · have hs := g_f hs hc
        refine lv_iconst (v := 1) hx hb dX4_hasPlace_47 (by decide) ?_
        refine lv_goto (tgt := 52) hx hb dX4_hasPlace_48 (by decide) ?_
        exact gRet_z hx hb hr hlocks rfl hK hP hS ⟨g_some hs, rfl⟩ dX4_hasPlace_52
  · have hs := g_f hs hc
    refine lv_iload_n hx hb dX4_hasPlace_5 rfl (lv_at hl 1 rfl) ?_
    refine g_bind hs (fun q_3 hq_3 hs => ?_)
    refine gCN_i (As := [.int x1]) (rest := []) ⟨hx, hb, hml, hown, hts⟩ (cX5_isRoom_c l D cy ad tL z0 hI v u x1 q_3 hq_3) (va_cnB (host := RX5) 1 hts gX4_hasPlace_X5_isRoom_n31 rfl rfl rfl (hK.2.2.2.1 _ (List.mem_of_getElem? (i := 1) rfl)) inX5 (by decide +kernel) ⟨Nat.le_of_ble_eq_true rfl, Nat.le_of_ble_eq_true rfl⟩) stX5_isRoom hK hP hS hl.1 rfl rfl (Nat.le_of_ble_eq_true rfl) dX4_hasPlace_6 ⟨Nat.zero_le _, Nat.zero_le _⟩ (fun H locs hP hS => ?_)
    refine lv_if_ne (tgt := 17) hx hb dX4_hasPlace_9 (by decide) (fun hc => ?_) (fun hc => ?_)
    · have hs := g_f hs hc
      refine lv_iconst (v := 1) hx hb dX4_hasPlace_17 (by decide) ?_
      refine lv_goto (tgt := 22) hx hb dX4_hasPlace_18 (by decide) ?_
      exact gRet_z hx hb hr hlocks rfl hK hP hS ⟨g_some hs, rfl⟩ dX4_hasPlace_22
    · have hs := g_t hs hc
      refine lv_iload_n hx hb dX4_hasPlace_12 rfl (lv_at hl 1 rfl) ?_
      refine lv_iconst (v := 4) hx hb dX4_hasPlace_13 (by decide) ?_
      refine lv_icmp_ne (tgt := 21) hx hb dX4_hasPlace_14 (by decide) (fun hc => ?_) (fun hc => ?_)
      · have hs := g_f hs hc
        refine lv_iconst (v := 0) hx hb dX4_hasPlace_21 (by decide) ?_
        exact gRet_z hx hb hr hlocks rfl hK hP hS ⟨g_some hs, rfl⟩ dX4_hasPlace_22
      · have hs := g_t hs hc
        refine lv_iconst (v := 1) hx hb dX4_hasPlace_17 (by decide) ?_
        refine lv_goto (tgt := 22) hx hb dX4_hasPlace_18 (by decide) ?_
        exact gRet_z hx hb hr hlocks rfl hK hP hS ⟨g_some hs, rfl⟩ dX4_hasPlace_22
set_option maxHeartbeats 4000000 in
set_option maxRecDepth 100000 in
theorem cX5_isAdjective_c (l : Launch) (D : va_G) (cy : Nat → ClassId) (ad : Nat → Nat) (tL z0 : Nat) (hI : gI z0 ad) (v : gV) (u : Int64) (x0 : Int32) (r0 : Int32) (hs : sX5_isAdjective x0 = some r0) : Met l yX5_isAdjective wsX5_isAdjective ({ frames := 0, cells := 0, slots := 0, locals := 0 } : Room) (gPc D cy ad tL z0 v u [.int x0]) (gQi D cy ad tL z0 v u r0) 0 0 (gA z0) := by
  refine Met.ofW (cc := cX5_isAdjective) (maxL := 1) (ret := (some .boolean)) (by decide) rfl ?_
  intro p e s m args below meth c s₁ B hml hv
  obtain ⟨rfl, hB0⟩ := hv
  have hP : va_P D vwCl (gW cy ad v u) s.heap := hB0.1
  have hK : gK D cy tL z0 s s.heap := hB0.2
  have hx := B.exec
  have hb := B.bytes
  have hr := B.returns
  have hts := atoms_spec (ws := wsX5_isAdjective) B.pre
  have hown : s.vm.findClass RX5 = some m.cls := findClass_of_methodNamed B.named
  have hlocks := B.notSynchronized
  have hS : va_S (gA z0) s.heap s.heap [] := va_S.rf
  have hl := lv_entry ([.int x0]) (n := 1) (Nat.le_of_ble_eq_true rfl)
  rw [lg_entry_eq]
  generalize (lg_sl ([.int x0]) ++ List.replicate (1 - (lg_sl ([.int x0])).length) Slot.unset).toArray = ls at hl ⊢
  have hl : lv_has ls 1 [(0, .int x0)] := hl
  clear hB0
  unfold sX5_isAdjective at hs
  refine lv_iload_n hx hb dX5_isAdjective_0 rfl (lv_at hl 0 rfl) ?_
  refine lv_if_lt (tgt := 13) hx hb dX5_isAdjective_1 (by decide) (fun hc => ?_) (fun hc => ?_)
  · have hs := g_t hs hc
    refine lv_iconst (v := 0) hx hb dX5_isAdjective_13 (by decide) ?_
    exact gRet_z hx hb hr hlocks rfl hK hP hS ⟨g_some hs, rfl⟩ dX5_isAdjective_14
  · have hs := g_f hs hc
    refine lv_iload_n hx hb dX5_isAdjective_4 rfl (lv_at hl 0 rfl) ?_
    refine lv_iconst (v := 4) hx hb dX5_isAdjective_5 (by decide) ?_
    refine lv_icmp_ge (tgt := 13) hx hb dX5_isAdjective_6 (by decide) (fun hc => ?_) (fun hc => ?_)
    · have hs := g_t hs hc
      refine lv_iconst (v := 0) hx hb dX5_isAdjective_13 (by decide) ?_
      exact gRet_z hx hb hr hlocks rfl hK hP hS ⟨g_some hs, rfl⟩ dX5_isAdjective_14
    · have hs := g_f hs hc
      refine lv_iconst (v := 1) hx hb dX5_isAdjective_9 (by decide) ?_
      refine lv_goto (tgt := 14) hx hb dX5_isAdjective_10 (by decide) ?_
      exact gRet_z hx hb hr hlocks rfl hK hP hS ⟨g_some hs, rfl⟩ dX5_isAdjective_14
set_option maxHeartbeats 4000000 in
set_option maxRecDepth 100000 in
theorem cX5_hasRow_c (l : Launch) (D : va_G) (cy : Nat → ClassId) (ad : Nat → Nat) (tL z0 : Nat) (hI : gI z0 ad) (v : gV) (u : Int64) (x1 : Int32) (r0 : Int32) (hs : sX5_hasRow v x1 = some r0) : Met l yX5_hasRow wsX5_hasRow ({ frames := 0, cells := 0, slots := 0, locals := 0 } : Room) (gPc D cy ad tL z0 v u [.ref (ad 0), .int x1]) (gQi D cy ad tL z0 v u r0) 0 0 (gA z0) := by
  refine Met.ofW (cc := cX5_hasRow) (maxL := 2) (ret := (some .boolean)) (by decide) rfl ?_
  intro p e s m args below meth c s₁ B hml hv
  obtain ⟨rfl, hB0⟩ := hv
  have hP : va_P D vwCl (gW cy ad v u) s.heap := hB0.1
  have hK : gK D cy tL z0 s s.heap := hB0.2
  have hx := B.exec
  have hb := B.bytes
  have hr := B.returns
  have hts := atoms_spec (ws := wsX5_hasRow) B.pre
  have hown : s.vm.findClass RX5 = some m.cls := findClass_of_methodNamed B.named
  have hlocks := B.notSynchronized
  have hS : va_S (gA z0) s.heap s.heap [] := va_S.rf
  have hl := lv_entry ([.ref (ad 0), .int x1]) (n := 2) (Nat.le_of_ble_eq_true rfl)
  rw [lg_entry_eq]
  generalize (lg_sl ([.ref (ad 0), .int x1]) ++ List.replicate (2 - (lg_sl ([.ref (ad 0), .int x1])).length) Slot.unset).toArray = ls at hl ⊢
  have hl : lv_has ls 2 [(0, .ref (ad 0)), (1, .int x1)] := hl
  have iX5 := (show ∀ w ∈ u_ws RX5 TX5 7, w ∈ wsX5_hasRow by decide +kernel)
  have f33 := hts (.fieldLink RX5 33 "AdventureParser" "saved" "[LAdventureParser$State;") (by decide +kernel)
  clear hB0
  unfold sX5_hasRow at hs
  refine lv_iload_n hx hb dX5_hasRow_0 rfl (lv_at hl 1 rfl) ?_
  refine lv_if_lt (tgt := 26) hx hb dX5_hasRow_1 (by decide) (fun hc => ?_) (fun hc => ?_)
  · have hs := g_t hs hc
    refine lv_iconst (v := 0) hx hb dX5_hasRow_26 (by decide) ?_
    exact gRet_z hx hb hr hlocks rfl hK hP hS ⟨g_some hs, rfl⟩ dX5_hasRow_27
  · have hs := g_f hs hc
    refine lv_iload_n hx hb dX5_hasRow_4 rfl (lv_at hl 1 rfl) ?_
    refine lv_aload_n hx hb dX5_hasRow_5 rfl (lv_at hl 0 rfl) ?_
    refine va_get (D := D) (ci := 5) (v := .ref (ad 26)) (C := RX5) (T := TX5) (N := 7) hx hb hts iX5 hown hK.1 hP 0 (gW_5 kd0) rfl 4 (by decide) f33 (fun _ h9 => h9) rfl dX5_hasRow_6 ?_
    refine va_alen (v := 6) hx hb hK.1 hP 26 2 (gW_13 kd26) rfl rfl dX5_hasRow_9 ?_
    refine lv_icmp_ge (tgt := 26) hx hb dX5_hasRow_10 (by decide) (fun hc => ?_) (fun hc => ?_)
    · have hs := g_t hs hc
      refine lv_iconst (v := 0) hx hb dX5_hasRow_26 (by decide) ?_
      exact gRet_z hx hb hr hlocks rfl hK hP hS ⟨g_some hs, rfl⟩ dX5_hasRow_27
    · have hs := g_f hs hc
      refine lv_aload_n hx hb dX5_hasRow_13 rfl (lv_at hl 0 rfl) ?_
      refine va_get (D := D) (ci := 5) (v := .ref (ad 26)) (C := RX5) (T := TX5) (N := 7) hx hb hts iX5 hown hK.1 hP 0 (gW_5 kd0) rfl 4 (by decide) f33 (fun _ h9 => h9) rfl dX5_hasRow_14 ?_
      refine lv_iload_n hx hb dX5_hasRow_17 rfl (lv_at hl 1 rfl) ?_
      refine g_chk hs (fun hc hs => ?_)
      refine va_aldq hx hb hK.1 hP 26 2 (gW_13 kd26) rfl hc dX5_hasRow_18 ?_
      have hc18 := hc
      refine lv_ifnull hx hb dX5_hasRow_19 ?_
      refine lv_iconst (v := 1) hx hb dX5_hasRow_22 (by decide) ?_
      refine lv_goto (tgt := 27) hx hb dX5_hasRow_23 (by decide) ?_
      exact gRet_z hx hb hr hlocks rfl hK hP hS ⟨g_some hs, rfl⟩ dX5_hasRow_27
set_option maxHeartbeats 4000000 in
set_option maxRecDepth 100000 in
theorem cX5_save_c (l : Launch) (D : va_G) (cy : Nat → ClassId) (ad : Nat → Nat) (tL z0 : Nat) (hI : gI z0 ad) (n : Nat) (v : gV) (u : Int64) (v1 : gV) (hs : sX5_save n v = some v1) : Met l yX5_save wsX5_save ({ frames := 2, cells := 0, slots := 0, locals := 43 } : Room) (gPc D cy ad tL z0 v u [.ref (ad 0)]) (gQv D cy ad tL z0 v1 u) 0 0 (gA z0) := by
  refine Met.ofW (cc := cX5_save) (maxL := 1) (ret := none) (by decide) rfl ?_
  intro p e s m args below meth c s₁ B hml hv
  obtain ⟨rfl, hB0⟩ := hv
  have hP : va_P D vwCl (gW cy ad v u) s.heap := hB0.1
  have hK : gK D cy tL z0 s s.heap := hB0.2
  have hx := B.exec
  have hb := B.bytes
  have hr := B.returns
  have hts := atoms_spec (ws := wsX5_save) B.pre
  have hown : s.vm.findClass RX5 = some m.cls := findClass_of_methodNamed B.named
  have hlocks := B.notSynchronized
  have hS : va_S (gA z0) s.heap s.heap [] := va_S.rf
  have hl := lv_entry ([.ref (ad 0)]) (n := 1) (Nat.le_of_ble_eq_true rfl)
  rw [lg_entry_eq]
  generalize (lg_sl ([.ref (ad 0)]) ++ List.replicate (1 - (lg_sl ([.ref (ad 0)])).length) Slot.unset).toArray = ls at hl ⊢
  have hl : lv_has ls 1 [(0, .ref (ad 0))] := hl
  have iX5 := (show ∀ w ∈ u_ws RX5 TX5 7, w ∈ wsX5_save by decide +kernel)
  have f200 := hts (.fieldLink RX5 200 "AdventureParser" "nextSaved" "I") (by decide +kernel)
  have f197 := hts (.fieldLink RX5 197 "AdventureParser" "savedCount" "I") (by decide +kernel)
  have f33 := hts (.fieldLink RX5 33 "AdventureParser" "saved" "[LAdventureParser$State;") (by decide +kernel)
  have f26 := hts (.fieldLink RX5 26 "AdventureParser" "state" "LAdventureParser$State;") (by decide +kernel)
  clear hB0
  have hJ_49 : ∀ (v : gV) (t1 : Int32) (H : Heap) (locs : List Loc) (ls : Array Slot), va_P D vwCl (gW cy ad v u) H → va_S (gA z0) s.heap H locs → lv_has ls 1 [(0, .ref (ad 0))] → sX5_save_49 n v t1 = some v1 → W p l e (headSpec wsX5_save ({ frames := 2, cells := 0, slots := 0, locals := 43 } : Room)).room s m ([.ref (ad 0)] : List Value).toArray below meth c H locs 0 0 (MQ below (gQv D cy ad tL z0 v1 u) ([.ref (ad 0)] : List Value).toArray s 0 0 (gA z0)) (F0 m 49 ls [.int t1, .ref (ad 0)]) := by
    intro v t1 H locs ls hP hS hl hs
    unfold sX5_save_49 at hs
    refine va_put (D := D) (ci := 5) (v := .int t1) (ty := .int) (C := RX5) (T := TX5) (N := 7) hx hb hts iX5 tyX5 tyX5_ok nmX5 hown hK.1 hP (gD hI) hS 0 (gW_5 kd0) rfl 6 (by decide) f200 (fun _ h9 => h9) rfl (by decide +kernel) rfl rfl (Nat.le_of_ble_eq_true rfl) dX5_save_49 (fun H locs hP _ hS => ?_)
    refine g_let hs (fun v_2 ev_2 hs => ?_)
    have hP : va_P D vwCl (gW cy ad v_2 u) H := gPset ((gS_5_6 kd0 t1).trans (congrArg (fun z => gW cy ad z u) ev_2.symm)) hP
    refine lv_aload_n hx hb dX5_save_52 rfl (lv_at hl 0 rfl) ?_
    refine va_get (D := D) (ci := 5) (v := .int (v_2 0 5)) (C := RX5) (T := TX5) (N := 7) hx hb hts iX5 hown hK.1 hP 0 (gW_5 kd0) rfl 5 (by decide) f197 (fun _ h9 => h9) rfl dX5_save_53 ?_
    refine lv_bipush (v := 6) hx hb dX5_save_56 (by decide) ?_
    refine lv_icmp_ge (tgt := 71) hx hb dX5_save_58 (by decide) (fun hc => ?_) (fun hc => ?_)
    · have hs := g_t hs hc
      exact gRet_v hx hb hr hlocks hK hP hS (g_some hs) dX5_save_71
    · have hs := g_f hs hc
      refine lv_aload_n hx hb dX5_save_61 rfl (lv_at hl 0 rfl) ?_
      refine lv_dup hx hb dX5_save_62 rfl ?_
      refine va_get (D := D) (ci := 5) (v := .int (v_2 0 5)) (C := RX5) (T := TX5) (N := 7) hx hb hts iX5 hown hK.1 hP 0 (gW_5 kd0) rfl 5 (by decide) f197 (fun _ h9 => h9) rfl dX5_save_63 ?_
      refine lv_iconst (v := 1) hx hb dX5_save_66 (by decide) ?_
      refine lv_iadd hx hb dX5_save_67 ?_
      refine va_put (D := D) (ci := 5) (v := .int ((v_2 0 5) + 1)) (ty := .int) (C := RX5) (T := TX5) (N := 7) hx hb hts iX5 tyX5 tyX5_ok nmX5 hown hK.1 hP (gD hI) hS 0 (gW_5 kd0) rfl 5 (by decide) f197 (fun _ h9 => h9) rfl (by decide +kernel) rfl rfl (Nat.le_of_ble_eq_true rfl) dX5_save_68 (fun H locs hP _ hS => ?_)
      refine g_let hs (fun v_3 ev_3 hs => ?_)
      have hP : va_P D vwCl (gW cy ad v_3 u) H := gPset ((gS_5_5 kd0 ((v_2 0 5) + 1)).trans (congrArg (fun z => gW cy ad z u) ev_3.symm)) hP
      exact gRet_v hx hb hr hlocks hK hP hS (g_some hs) dX5_save_71
  have hJ_27 : ∀ (v : gV)  (H : Heap) (locs : List Loc) (ls : Array Slot), va_P D vwCl (gW cy ad v u) H → va_S (gA z0) s.heap H locs → lv_has ls 1 [(0, .ref (ad 0))] → sX5_save_27 n v = some v1 → W p l e (headSpec wsX5_save ({ frames := 2, cells := 0, slots := 0, locals := 43 } : Room)).room s m ([.ref (ad 0)] : List Value).toArray below meth c H locs 0 0 (MQ below (gQv D cy ad tL z0 v1 u) ([.ref (ad 0)] : List Value).toArray s 0 0 (gA z0)) (F0 m 27 ls []) := by
    intro v H locs ls hP hS hl hs
    unfold sX5_save_27 at hs
    refine lv_aload_n hx hb dX5_save_27 rfl (lv_at hl 0 rfl) ?_
    refine lv_aload_n hx hb dX5_save_28 rfl (lv_at hl 0 rfl) ?_
    refine va_get (D := D) (ci := 5) (v := .int (v 0 6)) (C := RX5) (T := TX5) (N := 7) hx hb hts iX5 hown hK.1 hP 0 (gW_5 kd0) rfl 6 (by decide) f200 (fun _ h9 => h9) rfl dX5_save_29 ?_
    refine lv_iconst (v := 1) hx hb dX5_save_32 (by decide) ?_
    refine lv_iadd hx hb dX5_save_33 ?_
    refine lv_bipush (v := 6) hx hb dX5_save_34 (by decide) ?_
    refine lv_icmp_ge (tgt := 48) hx hb dX5_save_36 (by decide) (fun hc => ?_) (fun hc => ?_)
    · have hs := g_t hs hc
      refine lv_iconst (v := 0) hx hb dX5_save_48 (by decide) ?_
      exact hJ_49 v 0 _ _ _ hP hS (lv_sub hl [0] rfl) hs
    · have hs := g_f hs hc
      refine lv_aload_n hx hb dX5_save_39 rfl (lv_at hl 0 rfl) ?_
      refine va_get (D := D) (ci := 5) (v := .int (v 0 6)) (C := RX5) (T := TX5) (N := 7) hx hb hts iX5 hown hK.1 hP 0 (gW_5 kd0) rfl 6 (by decide) f200 (fun _ h9 => h9) rfl dX5_save_40 ?_
      refine lv_iconst (v := 1) hx hb dX5_save_43 (by decide) ?_
      refine lv_iadd hx hb dX5_save_44 ?_
      refine lv_goto (tgt := 49) hx hb dX5_save_45 (by decide) ?_
      exact hJ_49 v ((v 0 6) + 1) _ _ _ hP hS (lv_sub hl [0] rfl) hs
  unfold sX5_save at hs
  refine lv_aload_n hx hb dX5_save_0 rfl (lv_at hl 0 rfl) ?_
  refine lv_aload_n hx hb dX5_save_1 rfl (lv_at hl 0 rfl) ?_
  refine va_get (D := D) (ci := 5) (v := .int (v 0 6)) (C := RX5) (T := TX5) (N := 7) hx hb hts iX5 hown hK.1 hP 0 (gW_5 kd0) rfl 6 (by decide) f200 (fun _ h9 => h9) rfl dX5_save_2 ?_
  refine g_bind hs (fun q_1 hq_1 hs => ?_)
  refine gCV_i (As := [.int (v 0 6)]) (rest := []) ⟨hx, hb, hml, hown, hts⟩ (cX5_hasRow_c l D cy ad tL z0 hI v u (v 0 6) q_1 hq_1) (cwV 1 hts gX5_save_X5_hasRow rfl rfl rfl (by decide +kernel) ⟨Nat.le_of_ble_eq_true rfl, Nat.le_of_ble_eq_true rfl⟩) hK hP hS (va_recv hK.1 hP (ci := 5) (q0 := 0) rfl (gW_5 kd0)) hl.1 rfl rfl (Nat.le_of_ble_eq_true rfl) dX5_save_5 ⟨Nat.zero_le _, Nat.zero_le _⟩ (fun H locs hP hS => ?_)
  refine lv_if_eq (tgt := 27) hx hb dX5_save_8 (by decide) (fun hc => ?_) (fun hc => ?_)
  · have hs := g_t hs hc
    exact hJ_27 v _ _ _ hP hS (lv_sub hl [0] rfl) hs
  · have hs := g_f hs hc
    refine lv_aload_n hx hb dX5_save_11 rfl (lv_at hl 0 rfl) ?_
    refine va_get (D := D) (ci := 5) (v := .ref (ad 26)) (C := RX5) (T := TX5) (N := 7) hx hb hts iX5 hown hK.1 hP 0 (gW_5 kd0) rfl 4 (by decide) f33 (fun _ h9 => h9) rfl dX5_save_12 ?_
    refine lv_aload_n hx hb dX5_save_15 rfl (lv_at hl 0 rfl) ?_
    refine va_get (D := D) (ci := 5) (v := .int (v 0 6)) (C := RX5) (T := TX5) (N := 7) hx hb hts iX5 hown hK.1 hP 0 (gW_5 kd0) rfl 6 (by decide) f200 (fun _ h9 => h9) rfl dX5_save_16 ?_
    refine g_chk hs (fun hc hs => ?_)
    refine va_aldq hx hb hK.1 hP 26 2 (gW_13 kd26) rfl hc dX5_save_19 ?_
    have hc19 := hc
    refine lv_aload_n hx hb dX5_save_20 rfl (lv_at hl 0 rfl) ?_
    refine va_get (D := D) (ci := 5) (v := .ref (ad 8)) (C := RX5) (T := TX5) (N := 7) hx hb hts iX5 hown hK.1 hP 0 (gW_5 kd0) rfl 2 (by decide) f26 (fun _ h9 => h9) rfl dX5_save_21 ?_
    refine g_bind hs (fun q_4 hq_4 hs => ?_)
    refine gCV_v (As := [.ref (ad 8)]) (rest := []) ⟨hx, hb, hml, hown, hts⟩ (cX3_copyFrom_c l D cy ad tL z0 hI n v u (27 + 9 * (v 0 6).toNatClampNeg) 8 q_4 (kd_sv (Nat.not_le.mp fun z9 => hc19 (Or.inr z9))) kd8 hq_4) (cwV 1 hts gX5_save_X3_copyFrom rfl rfl rfl (by decide +kernel) ⟨Nat.le_of_ble_eq_true rfl, Nat.le_of_ble_eq_true rfl⟩) hK hP hS (va_recv hK.1 hP (ci := 3) (q0 := 27 + 9 * (v 0 6).toNatClampNeg) rfl (gW_3 (kd_sv (Nat.not_le.mp fun z9 => hc19 (Or.inr z9))))) hl.1 rfl rfl (Nat.le_of_ble_eq_true rfl) dX5_save_24 ⟨Nat.zero_le _, Nat.zero_le _⟩ (fun H locs hP hS => ?_)
    exact hJ_27 q_4 _ _ _ hP hS (lv_sub hl [0] rfl) hs
set_option maxHeartbeats 4000000 in
set_option maxRecDepth 100000 in
theorem cX5_addObject_c (l : Launch) (D : va_G) (cy : Nat → ClassId) (ad : Nat → Nat) (tL z0 : Nat) (hI : gI z0 ad) (n : Nat) (v : gV) (u : Int64) (x1 : Int32) (x2 : Int32) (x3 : Int32) (r0 : Int32) (v1 : gV) (hs : sX5_addObject n v x1 x2 x3 = some (r0, v1)) : Met l yX5_addObject wsX5_addObject ({ frames := 3, cells := 0, slots := 0, locals := 63 } : Room) (gPc D cy ad tL z0 v u [.ref (ad 0), .int x1, .int x2, .int x3]) (gQi D cy ad tL z0 v1 u r0) 0 0 (gA z0) := by
  refine Met.ofW (cc := cX5_addObject) (maxL := 5) (ret := (some .int)) (by decide) rfl ?_
  intro p e s m args below meth c s₁ B hml hv
  obtain ⟨rfl, hB0⟩ := hv
  have hP : va_P D vwCl (gW cy ad v u) s.heap := hB0.1
  have hK : gK D cy tL z0 s s.heap := hB0.2
  have hx := B.exec
  have hb := B.bytes
  have hr := B.returns
  have hts := atoms_spec (ws := wsX5_addObject) B.pre
  have hown : s.vm.findClass RX5 = some m.cls := findClass_of_methodNamed B.named
  have hlocks := B.notSynchronized
  have hS : va_S (gA z0) s.heap s.heap [] := va_S.rf
  have hl := lv_entry ([.ref (ad 0), .int x1, .int x2, .int x3]) (n := 5) (Nat.le_of_ble_eq_true rfl)
  rw [lg_entry_eq]
  generalize (lg_sl ([.ref (ad 0), .int x1, .int x2, .int x3]) ++ List.replicate (5 - (lg_sl ([.ref (ad 0), .int x1, .int x2, .int x3])).length) Slot.unset).toArray = ls at hl ⊢
  have hl : lv_has ls 5 [(0, .ref (ad 0)), (1, .int x1), (2, .int x2), (3, .int x3)] := hl
  have iX5 := (show ∀ w ∈ u_ws RX5 TX5 7, w ∈ wsX5_addObject by decide +kernel)
  have f26 := hts (.fieldLink RX5 26 "AdventureParser" "state" "LAdventureParser$State;") (by decide +kernel)
  have iX3 := (show ∀ w ∈ u_ws RX3 TX3 9, w ∈ wsX5_addObject by decide +kernel)
  have f37 := hts (.fieldLink RX5 37 "AdventureParser$State" "world" "LAdventureParser$World;") (by decide +kernel)
  have iX4 := (show ∀ w ∈ u_ws RX4 TX4 6, w ∈ wsX5_addObject by decide +kernel)
  have f59 := hts (.fieldLink RX5 59 "AdventureParser$World" "count" "I") (by decide +kernel)
  clear hB0
  have hJ_32 : ∀ (v : gV)  (H : Heap) (locs : List Loc) (ls : Array Slot), va_P D vwCl (gW cy ad v u) H → va_S (gA z0) s.heap H locs → lv_has ls 5 [] → sX5_addObject_32 n v = some (r0, v1) → W p l e (headSpec wsX5_addObject ({ frames := 3, cells := 0, slots := 0, locals := 63 } : Room)).room s m ([.ref (ad 0), .int x1, .int x2, .int x3] : List Value).toArray below meth c H locs 0 0 (MQ below (gQi D cy ad tL z0 v1 u r0) ([.ref (ad 0), .int x1, .int x2, .int x3] : List Value).toArray s 0 0 (gA z0)) (F0 m 32 ls []) := by
    intro v H locs ls hP hS hl hs
    unfold sX5_addObject_32 at hs
    exact g_none hs
  have hJ_89 : ∀ (v : gV)  (H : Heap) (locs : List Loc) (ls : Array Slot), va_P D vwCl (gW cy ad v u) H → va_S (gA z0) s.heap H locs → lv_has ls 5 [] → sX5_addObject_89 n v = some (r0, v1) → W p l e (headSpec wsX5_addObject ({ frames := 3, cells := 0, slots := 0, locals := 63 } : Room)).room s m ([.ref (ad 0), .int x1, .int x2, .int x3] : List Value).toArray below meth c H locs 0 0 (MQ below (gQi D cy ad tL z0 v1 u r0) ([.ref (ad 0), .int x1, .int x2, .int x3] : List Value).toArray s 0 0 (gA z0)) (F0 m 89 ls []) := by
    intro v H locs ls hP hS hl hs
    unfold sX5_addObject_89 at hs
    exact g_none hs
  have hJ_60 : ∀ (v : gV) (w1 : Int32) (w2 : Int32) (w3 : Int32) (H : Heap) (locs : List Loc) (ls : Array Slot), va_P D vwCl (gW cy ad v u) H → va_S (gA z0) s.heap H locs → lv_has ls 5 [(0, .ref (ad 0)), (1, .int w1), (2, .int w2), (3, .int w3), (4, .ref (ad 9))] → sX5_addObject_60 n v w1 w2 w3 = some (r0, v1) → W p l e (headSpec wsX5_addObject ({ frames := 3, cells := 0, slots := 0, locals := 63 } : Room)).room s m ([.ref (ad 0), .int x1, .int x2, .int x3] : List Value).toArray below meth c H locs 0 0 (MQ below (gQi D cy ad tL z0 v1 u r0) ([.ref (ad 0), .int x1, .int x2, .int x3] : List Value).toArray s 0 0 (gA z0)) (F0 m 60 ls []) := by
    intro v w1 w2 w3 H locs ls hP hS hl hs
    unfold sX5_addObject_60 at hs
    refine lv_aload hx hb dX5_addObject_60 (lv_at hl 4 rfl) ?_
    refine va_get (D := D) (ci := 4) (v := .int (v 9 3)) (C := RX4) (T := TX4) (N := 6) hx hb hts iX4 hown hK.1 hP 9 (gW_4 kd9) rfl 3 (by decide) f59 (fun _ h9 => h9) rfl dX5_addObject_62 ?_
    refine lv_bipush (v := 12) hx hb dX5_addObject_65 (by decide) ?_
    refine lv_icmp_ge (tgt := 89) hx hb dX5_addObject_67 (by decide) (fun hc => ?_) (fun hc => ?_)
    · have hs := g_t hs hc
      exact hJ_89 v _ _ _ hP hS (lv_sub hl [] rfl) hs
    · have hs := g_f hs hc
      refine lv_aload hx hb dX5_addObject_70 (lv_at hl 4 rfl) ?_
      refine lv_iload_n hx hb dX5_addObject_72 rfl (lv_at hl 3 rfl) ?_
      refine g_bind hs (fun q_5 hq_5 hs => ?_)
      refine gCV_i (As := [.int w3]) (rest := []) ⟨hx, hb, hml, hown, hts⟩ (cX4_isFull_c l D cy ad tL z0 hI n v u 9 w3 q_5 kd9 hq_5) (cwV 1 hts gX5_addObject_X4_isFull rfl rfl rfl (by decide +kernel) ⟨Nat.le_of_ble_eq_true rfl, Nat.le_of_ble_eq_true rfl⟩) hK hP hS (va_recv hK.1 hP (ci := 4) (q0 := 9) rfl (gW_4 kd9)) hl.1 rfl rfl (Nat.le_of_ble_eq_true rfl) dX5_addObject_73 ⟨Nat.zero_le _, Nat.zero_le _⟩ (fun H locs hP hS => ?_)
      refine lv_if_ne (tgt := 89) hx hb dX5_addObject_76 (by decide) (fun hc => ?_) (fun hc => ?_)
      · have hs := g_f hs hc
        exact hJ_89 v _ _ _ hP hS (lv_sub hl [] rfl) hs
      · have hs := g_t hs hc
        refine lv_aload hx hb dX5_addObject_79 (lv_at hl 4 rfl) ?_
        refine lv_iload_n hx hb dX5_addObject_81 rfl (lv_at hl 1 rfl) ?_
        refine lv_iload_n hx hb dX5_addObject_82 rfl (lv_at hl 2 rfl) ?_
        refine g_bind hs (fun q_6 hq_6 hs => ?_)
        refine gCV_i (As := [.int w1, .int w2]) (rest := []) ⟨hx, hb, hml, hown, hts⟩ (cX4_fittingSet_c l D cy ad tL z0 hI n v u 9 w1 w2 q_6 kd9 hq_6) (cwV 2 hts gX5_addObject_X4_fittingSet rfl rfl rfl (by decide +kernel) ⟨Nat.le_of_ble_eq_true rfl, Nat.le_of_ble_eq_true rfl⟩) hK hP hS (va_recv hK.1 hP (ci := 4) (q0 := 9) rfl (gW_4 kd9)) hl.1 rfl rfl (Nat.le_of_ble_eq_true rfl) dX5_addObject_83 ⟨Nat.zero_le _, Nat.zero_le _⟩ (fun H locs hP hS => ?_)
        refine lv_if_eq (tgt := 97) hx hb dX5_addObject_86 (by decide) (fun hc => ?_) (fun hc => ?_)
        · have hs := g_t hs hc
          refine lv_aload_n hx hb dX5_addObject_97 rfl (lv_at hl 0 rfl) ?_
          refine g_bind hs (fun q_7 hq_7 hs => ?_)
          refine gCV_v (As := []) (rest := []) ⟨hx, hb, hml, hown, hts⟩ (cX5_save_c l D cy ad tL z0 hI n v u q_7 hq_7) (cwV 0 hts gX5_addObject_X5_save rfl rfl rfl (by decide +kernel) ⟨Nat.le_of_ble_eq_true rfl, Nat.le_of_ble_eq_true rfl⟩) hK hP hS (va_recv hK.1 hP (ci := 5) (q0 := 0) rfl (gW_5 kd0)) hl.1 rfl rfl (Nat.le_of_ble_eq_true rfl) dX5_addObject_98 ⟨Nat.zero_le _, Nat.zero_le _⟩ (fun H locs hP hS => ?_)
          refine lv_aload_n hx hb dX5_addObject_101 rfl (lv_at hl 0 rfl) ?_
          refine va_get (D := D) (ci := 5) (v := .ref (ad 8)) (C := RX5) (T := TX5) (N := 7) hx hb hts iX5 hown hK.1 hP 0 (gW_5 kd0) rfl 2 (by decide) f26 (fun _ h9 => h9) rfl dX5_addObject_102 ?_
          refine g_bind hs (fun q_8 hq_8 hs => ?_)
          refine gCV_v (As := []) (rest := []) ⟨hx, hb, hml, hown, hts⟩ (cX3_closeQuestion_c l D cy ad tL z0 hI q_7 u 8 q_8 kd8 hq_8) (cwV 0 hts gX5_addObject_X3_closeQuestion rfl rfl rfl (by decide +kernel) ⟨Nat.le_of_ble_eq_true rfl, Nat.le_of_ble_eq_true rfl⟩) hK hP hS (va_recv hK.1 hP (ci := 3) (q0 := 8) rfl (gW_3 kd8)) hl.1 rfl rfl (Nat.le_of_ble_eq_true rfl) dX5_addObject_105 ⟨Nat.zero_le _, Nat.zero_le _⟩ (fun H locs hP hS => ?_)
          refine lv_aload hx hb dX5_addObject_108 (lv_at hl 4 rfl) ?_
          refine lv_iload_n hx hb dX5_addObject_110 rfl (lv_at hl 1 rfl) ?_
          refine lv_iload_n hx hb dX5_addObject_111 rfl (lv_at hl 2 rfl) ?_
          refine lv_iload_n hx hb dX5_addObject_112 rfl (lv_at hl 3 rfl) ?_
          refine g_bind hs (fun q_9 hq_9 hs => ?_)
          refine gCV_i (As := [.int w1, .int w2, .int w3]) (rest := []) ⟨hx, hb, hml, hown, hts⟩ (cX4_add_c l D cy ad tL z0 hI q_8 u 9 w1 w2 w3 q_9.1 q_9.2 kd9 hq_9) (cwV 3 hts gX5_addObject_X4_add rfl rfl rfl (by decide +kernel) ⟨Nat.le_of_ble_eq_true rfl, Nat.le_of_ble_eq_true rfl⟩) hK hP hS (va_recv hK.1 hP (ci := 4) (q0 := 9) rfl (gW_4 kd9)) hl.1 rfl rfl (Nat.le_of_ble_eq_true rfl) dX5_addObject_113 ⟨Nat.zero_le _, Nat.zero_le _⟩ (fun H locs hP hS => ?_)
          exact gRet_i hx hb hr hlocks hK hP hS (g_some2 hs) dX5_addObject_116
        · have hs := g_f hs hc
          exact hJ_89 v _ _ _ hP hS (lv_sub hl [] rfl) hs
  unfold sX5_addObject at hs
  refine lv_aload_n hx hb dX5_addObject_0 rfl (lv_at hl 0 rfl) ?_
  refine va_get (D := D) (ci := 5) (v := .ref (ad 8)) (C := RX5) (T := TX5) (N := 7) hx hb hts iX5 hown hK.1 hP 0 (gW_5 kd0) rfl 2 (by decide) f26 (fun _ h9 => h9) rfl dX5_addObject_1 ?_
  refine va_get (D := D) (ci := 3) (v := .ref (ad 9)) (C := RX3) (T := TX3) (N := 9) hx hb hts iX3 hown hK.1 hP 8 (gW_3 kd8) rfl 0 (by decide) f37 (fun _ h9 => h9) rfl dX5_addObject_4 ?_
  refine lv_astore (lv' := [(4, .ref (ad 9)), (0, .ref (ad 0)), (1, .int x1), (2, .int x2), (3, .int x3)]) hx hb dX5_addObject_7 hl (by decide) rfl (fun ls hl => ?_)
  refine lv_iload_n hx hb dX5_addObject_9 rfl (lv_at hl 2 rfl) ?_
  refine g_bind hs (fun q_1 hq_1 hs => ?_)
  refine gCS_i (As := [.int x1]) (rest := []) ⟨hx, hb, hml, hown, hts⟩ (cX5_isNoun_c l D cy ad tL z0 hI v u x1 q_1 hq_1) (va_cwS 1 hts gX5_addObject_X5_isNoun rfl rfl rfl (by decide +kernel) ⟨Nat.le_of_ble_eq_true rfl, Nat.le_of_ble_eq_true rfl⟩) hK hP hS hl.1 rfl rfl (Nat.le_of_ble_eq_true rfl) dX5_addObject_10 ⟨Nat.zero_le _, Nat.zero_le _⟩ (fun H locs hP hS => ?_)
  refine lv_if_eq (tgt := 32) hx hb dX5_addObject_13 (by decide) (fun hc => ?_) (fun hc => ?_)
  · have hs := g_t hs hc
    exact hJ_32 v _ _ _ hP hS (lv_sub hl [] rfl) hs
  · have hs := g_f hs hc
    refine lv_iload_n hx hb dX5_addObject_16 rfl (lv_at hl 3 rfl) ?_
    refine g_bind hs (fun q_2 hq_2 hs => ?_)
    refine gCS_i (As := [.int x2]) (rest := []) ⟨hx, hb, hml, hown, hts⟩ (cX5_isAdjective_c l D cy ad tL z0 hI v u x2 q_2 hq_2) (va_cwS 1 hts gX5_addObject_X5_isAdjective rfl rfl rfl (by decide +kernel) ⟨Nat.le_of_ble_eq_true rfl, Nat.le_of_ble_eq_true rfl⟩) hK hP hS hl.1 rfl rfl (Nat.le_of_ble_eq_true rfl) dX5_addObject_17 ⟨Nat.zero_le _, Nat.zero_le _⟩ (fun H locs hP hS => ?_)
    refine lv_if_eq (tgt := 32) hx hb dX5_addObject_20 (by decide) (fun hc => ?_) (fun hc => ?_)
    · have hs := g_t hs hc
      exact hJ_32 v _ _ _ hP hS (lv_sub hl [] rfl) hs
    · have hs := g_f hs hc
      refine lv_aload hx hb dX5_addObject_23 (lv_at hl 0 rfl) ?_
      refine lv_iload_n hx hb dX5_addObject_25 rfl (lv_at hl 4 rfl) ?_
      refine g_bind hs (fun q_3 hq_3 hs => ?_)
      refine gCV_i (As := [.int x3]) (rest := []) ⟨hx, hb, hml, hown, hts⟩ (cX4_hasPlace_c l D cy ad tL z0 hI v u 9 x3 q_3 kd9 hq_3) (cwV 1 hts gX5_addObject_X4_hasPlace rfl rfl rfl (by decide +kernel) ⟨Nat.le_of_ble_eq_true rfl, Nat.le_of_ble_eq_true rfl⟩) hK hP hS (va_recv hK.1 hP (ci := 4) (q0 := 9) rfl (gW_4 kd9)) hl.1 rfl rfl (Nat.le_of_ble_eq_true rfl) dX5_addObject_26 ⟨Nat.zero_le _, Nat.zero_le _⟩ (fun H locs hP hS => ?_)
      refine lv_if_ne (tgt := 40) hx hb dX5_addObject_29 (by decide) (fun hc => ?_) (fun hc => ?_)
      · have hs := g_f hs hc
        refine lv_iload_n hx hb dX5_addObject_40 rfl (lv_at hl 2 rfl) ?_
        refine g_bind hs (fun q_4 hq_4 hs => ?_)
        refine gCS_i (As := [.int x1]) (rest := []) ⟨hx, hb, hml, hown, hts⟩ (cX5_isContainerNoun_c l D cy ad tL z0 hI v u x1 q_4 hq_4) (va_cwS 1 hts gX5_addObject_X5_isContainerNoun rfl rfl rfl (by decide +kernel) ⟨Nat.le_of_ble_eq_true rfl, Nat.le_of_ble_eq_true rfl⟩) hK hP hS hl.1 rfl rfl (Nat.le_of_ble_eq_true rfl) dX5_addObject_41 ⟨Nat.zero_le _, Nat.zero_le _⟩ (fun H locs hP hS => ?_)
        refine lv_if_eq (tgt := 60) hx hb dX5_addObject_44 (by decide) (fun hc => ?_) (fun hc => ?_)
        · have hs := g_t hs hc
          exact hJ_60 v x1 x2 x3 _ _ _ hP hS (lv_sub hl [1, 2, 3, 4, 0] rfl) hs
        · have hs := g_f hs hc
          refine lv_iload_n hx hb dX5_addObject_47 rfl (lv_at hl 4 rfl) ?_
          refine lv_iconst (v := 5) hx hb dX5_addObject_48 (by decide) ?_
          refine lv_icmp_lt (tgt := 60) hx hb dX5_addObject_49 (by decide) (fun hc => ?_) (fun hc => ?_)
          · have hs := g_t hs hc
            exact hJ_60 v x1 x2 x3 _ _ _ hP hS (lv_sub hl [1, 2, 3, 4, 0] rfl) hs
          · have hs := g_f hs hc
            exact g_none hs
      · have hs := g_t hs hc
        exact hJ_32 v _ _ _ hP hS (lv_sub hl [] rfl) hs
set_option maxHeartbeats 4000000 in
set_option maxRecDepth 100000 in
theorem cX5_moveTo_c (l : Launch) (D : va_G) (cy : Nat → ClassId) (ad : Nat → Nat) (tL z0 : Nat) (hI : gI z0 ad) (n : Nat) (v : gV) (u : Int64) (x1 : Int32) (r0 : Int32) (v1 : gV) (hs : sX5_moveTo n v x1 = some (r0, v1)) : Met l yX5_moveTo wsX5_moveTo ({ frames := 3, cells := 0, slots := 0, locals := 63 } : Room) (gPc D cy ad tL z0 v u [.ref (ad 0), .int x1]) (gQi D cy ad tL z0 v1 u r0) 0 0 (gA z0) := by
  refine Met.ofW (cc := cX5_moveTo) (maxL := 3) (ret := (some .int)) (by decide) rfl ?_
  intro p e s m args below meth c s₁ B hml hv
  obtain ⟨rfl, hB0⟩ := hv
  have hP : va_P D vwCl (gW cy ad v u) s.heap := hB0.1
  have hK : gK D cy tL z0 s s.heap := hB0.2
  have hx := B.exec
  have hb := B.bytes
  have hr := B.returns
  have hts := atoms_spec (ws := wsX5_moveTo) B.pre
  have hown : s.vm.findClass RX5 = some m.cls := findClass_of_methodNamed B.named
  have hlocks := B.notSynchronized
  have hS : va_S (gA z0) s.heap s.heap [] := va_S.rf
  have hl := lv_entry ([.ref (ad 0), .int x1]) (n := 3) (Nat.le_of_ble_eq_true rfl)
  rw [lg_entry_eq]
  generalize (lg_sl ([.ref (ad 0), .int x1]) ++ List.replicate (3 - (lg_sl ([.ref (ad 0), .int x1])).length) Slot.unset).toArray = ls at hl ⊢
  have hl : lv_has ls 3 [(0, .ref (ad 0)), (1, .int x1)] := hl
  have iX5 := (show ∀ w ∈ u_ws RX5 TX5 7, w ∈ wsX5_moveTo by decide +kernel)
  have f26 := hts (.fieldLink RX5 26 "AdventureParser" "state" "LAdventureParser$State;") (by decide +kernel)
  have iX3 := (show ∀ w ∈ u_ws RX3 TX3 9, w ∈ wsX5_moveTo by decide +kernel)
  have f37 := hts (.fieldLink RX5 37 "AdventureParser$State" "world" "LAdventureParser$World;") (by decide +kernel)
  have iX4 := (show ∀ w ∈ u_ws RX4 TX4 6, w ∈ wsX5_moveTo by decide +kernel)
  have f89 := hts (.fieldLink RX5 89 "AdventureParser$World" "room" "I") (by decide +kernel)
  clear hB0
  unfold sX5_moveTo at hs
  refine lv_iload_n hx hb dX5_moveTo_0 rfl (lv_at hl 1 rfl) ?_
  refine g_bind hs (fun q_1 hq_1 hs => ?_)
  refine gCS_i (As := [.int x1]) (rest := []) ⟨hx, hb, hml, hown, hts⟩ (cX5_isRoom_c l D cy ad tL z0 hI v u x1 q_1 hq_1) (va_cwS 1 hts gX5_moveTo_X5_isRoom rfl rfl rfl (by decide +kernel) ⟨Nat.le_of_ble_eq_true rfl, Nat.le_of_ble_eq_true rfl⟩) hK hP hS hl.1 rfl rfl (Nat.le_of_ble_eq_true rfl) dX5_moveTo_1 ⟨Nat.zero_le _, Nat.zero_le _⟩ (fun H locs hP hS => ?_)
  refine lv_if_ne (tgt := 15) hx hb dX5_moveTo_4 (by decide) (fun hc => ?_) (fun hc => ?_)
  · have hs := g_f hs hc
    refine lv_aload_n hx hb dX5_moveTo_15 rfl (lv_at hl 0 rfl) ?_
    refine g_bind hs (fun q_2 hq_2 hs => ?_)
    refine gCV_v (As := []) (rest := []) ⟨hx, hb, hml, hown, hts⟩ (cX5_save_c l D cy ad tL z0 hI n v u q_2 hq_2) (cwV 0 hts gX5_moveTo_X5_save rfl rfl rfl (by decide +kernel) ⟨Nat.le_of_ble_eq_true rfl, Nat.le_of_ble_eq_true rfl⟩) hK hP hS (va_recv hK.1 hP (ci := 5) (q0 := 0) rfl (gW_5 kd0)) hl.1 rfl rfl (Nat.le_of_ble_eq_true rfl) dX5_moveTo_16 ⟨Nat.zero_le _, Nat.zero_le _⟩ (fun H locs hP hS => ?_)
    refine lv_aload_n hx hb dX5_moveTo_19 rfl (lv_at hl 0 rfl) ?_
    refine va_get (D := D) (ci := 5) (v := .ref (ad 8)) (C := RX5) (T := TX5) (N := 7) hx hb hts iX5 hown hK.1 hP 0 (gW_5 kd0) rfl 2 (by decide) f26 (fun _ h9 => h9) rfl dX5_moveTo_20 ?_
    refine g_bind hs (fun q_3 hq_3 hs => ?_)
    refine gCV_v (As := []) (rest := []) ⟨hx, hb, hml, hown, hts⟩ (cX3_closeQuestion_c l D cy ad tL z0 hI q_2 u 8 q_3 kd8 hq_3) (cwV 0 hts gX5_moveTo_X3_closeQuestion rfl rfl rfl (by decide +kernel) ⟨Nat.le_of_ble_eq_true rfl, Nat.le_of_ble_eq_true rfl⟩) hK hP hS (va_recv hK.1 hP (ci := 3) (q0 := 8) rfl (gW_3 kd8)) hl.1 rfl rfl (Nat.le_of_ble_eq_true rfl) dX5_moveTo_23 ⟨Nat.zero_le _, Nat.zero_le _⟩ (fun H locs hP hS => ?_)
    refine lv_aload_n hx hb dX5_moveTo_26 rfl (lv_at hl 0 rfl) ?_
    refine va_get (D := D) (ci := 5) (v := .ref (ad 8)) (C := RX5) (T := TX5) (N := 7) hx hb hts iX5 hown hK.1 hP 0 (gW_5 kd0) rfl 2 (by decide) f26 (fun _ h9 => h9) rfl dX5_moveTo_27 ?_
    refine va_get (D := D) (ci := 3) (v := .ref (ad 9)) (C := RX3) (T := TX3) (N := 9) hx hb hts iX3 hown hK.1 hP 8 (gW_3 kd8) rfl 0 (by decide) f37 (fun _ h9 => h9) rfl dX5_moveTo_30 ?_
    refine va_get (D := D) (ci := 4) (v := .int (q_3 9 4)) (C := RX4) (T := TX4) (N := 6) hx hb hts iX4 hown hK.1 hP 9 (gW_4 kd9) rfl 4 (by decide) f89 (fun _ h9 => h9) rfl dX5_moveTo_33 ?_
    refine lv_istore_n (lv' := [(2, .int (q_3 9 4)), (0, .ref (ad 0)), (1, .int x1)]) hx hb dX5_moveTo_36 rfl hl (by decide) rfl (fun ls hl => ?_)
    refine lv_aload_n hx hb dX5_moveTo_37 rfl (lv_at hl 1 rfl) ?_
    refine va_get (D := D) (ci := 5) (v := .ref (ad 8)) (C := RX5) (T := TX5) (N := 7) hx hb hts iX5 hown hK.1 hP 0 (gW_5 kd0) rfl 2 (by decide) f26 (fun _ h9 => h9) rfl dX5_moveTo_38 ?_
    refine va_get (D := D) (ci := 3) (v := .ref (ad 9)) (C := RX3) (T := TX3) (N := 9) hx hb hts iX3 hown hK.1 hP 8 (gW_3 kd8) rfl 0 (by decide) f37 (fun _ h9 => h9) rfl dX5_moveTo_41 ?_
    refine lv_iload_n hx hb dX5_moveTo_44 rfl (lv_at hl 2 rfl) ?_
    refine va_put (D := D) (ci := 4) (v := .int x1) (ty := .int) (C := RX4) (T := TX4) (N := 6) hx hb hts iX4 tyX4 tyX4_ok nmX4 hown hK.1 hP (gD hI) hS 9 (gW_4 kd9) rfl 4 (by decide) f89 (fun _ h9 => h9) rfl (by decide +kernel) rfl rfl (Nat.le_of_ble_eq_true rfl) dX5_moveTo_45 (fun H locs hP _ hS => ?_)
    refine g_let hs (fun v_4 ev_4 hs => ?_)
    have hP : va_P D vwCl (gW cy ad v_4 u) H := gPset ((gS_4_4 kd9 x1).trans (congrArg (fun z => gW cy ad z u) ev_4.symm)) hP
    refine lv_iload_n hx hb dX5_moveTo_48 rfl (lv_at hl 0 rfl) ?_
    exact gRet_i hx hb hr hlocks hK hP hS (g_some2 hs) dX5_moveTo_49
  · have hs := g_t hs hc
    exact g_none hs
set_option maxHeartbeats 4000000 in
set_option maxRecDepth 100000 in
theorem cX5_objects_c (l : Launch) (D : va_G) (cy : Nat → ClassId) (ad : Nat → Nat) (tL z0 : Nat) (hI : gI z0 ad) (v : gV) (u : Int64) (r0 : Int32) (hs : sX5_objects v = some r0) : Met l yX5_objects wsX5_objects ({ frames := 0, cells := 0, slots := 0, locals := 0 } : Room) (gPc D cy ad tL z0 v u [.ref (ad 0)]) (gQi D cy ad tL z0 v u r0) 0 0 (gA z0) := by
  refine Met.ofW (cc := cX5_objects) (maxL := 1) (ret := (some .int)) (by decide) rfl ?_
  intro p e s m args below meth c s₁ B hml hv
  obtain ⟨rfl, hB0⟩ := hv
  have hP : va_P D vwCl (gW cy ad v u) s.heap := hB0.1
  have hK : gK D cy tL z0 s s.heap := hB0.2
  have hx := B.exec
  have hb := B.bytes
  have hr := B.returns
  have hts := atoms_spec (ws := wsX5_objects) B.pre
  have hown : s.vm.findClass RX5 = some m.cls := findClass_of_methodNamed B.named
  have hlocks := B.notSynchronized
  have hS : va_S (gA z0) s.heap s.heap [] := va_S.rf
  have hl := lv_entry ([.ref (ad 0)]) (n := 1) (Nat.le_of_ble_eq_true rfl)
  rw [lg_entry_eq]
  generalize (lg_sl ([.ref (ad 0)]) ++ List.replicate (1 - (lg_sl ([.ref (ad 0)])).length) Slot.unset).toArray = ls at hl ⊢
  have hl : lv_has ls 1 [(0, .ref (ad 0))] := hl
  have iX5 := (show ∀ w ∈ u_ws RX5 TX5 7, w ∈ wsX5_objects by decide +kernel)
  have f26 := hts (.fieldLink RX5 26 "AdventureParser" "state" "LAdventureParser$State;") (by decide +kernel)
  have iX3 := (show ∀ w ∈ u_ws RX3 TX3 9, w ∈ wsX5_objects by decide +kernel)
  have f37 := hts (.fieldLink RX5 37 "AdventureParser$State" "world" "LAdventureParser$World;") (by decide +kernel)
  have iX4 := (show ∀ w ∈ u_ws RX4 TX4 6, w ∈ wsX5_objects by decide +kernel)
  have f59 := hts (.fieldLink RX5 59 "AdventureParser$World" "count" "I") (by decide +kernel)
  clear hB0
  unfold sX5_objects at hs
  refine lv_aload_n hx hb dX5_objects_0 rfl (lv_at hl 0 rfl) ?_
  refine va_get (D := D) (ci := 5) (v := .ref (ad 8)) (C := RX5) (T := TX5) (N := 7) hx hb hts iX5 hown hK.1 hP 0 (gW_5 kd0) rfl 2 (by decide) f26 (fun _ h9 => h9) rfl dX5_objects_1 ?_
  refine va_get (D := D) (ci := 3) (v := .ref (ad 9)) (C := RX3) (T := TX3) (N := 9) hx hb hts iX3 hown hK.1 hP 8 (gW_3 kd8) rfl 0 (by decide) f37 (fun _ h9 => h9) rfl dX5_objects_4 ?_
  refine va_get (D := D) (ci := 4) (v := .int (v 9 3)) (C := RX4) (T := TX4) (N := 6) hx hb hts iX4 hown hK.1 hP 9 (gW_4 kd9) rfl 3 (by decide) f59 (fun _ h9 => h9) rfl dX5_objects_7 ?_
  exact gRet_i hx hb hr hlocks hK hP hS ⟨g_some hs, rfl⟩ dX5_objects_10
set_option maxHeartbeats 4000000 in
set_option maxRecDepth 100000 in
theorem cX5_noun_c (l : Launch) (D : va_G) (cy : Nat → ClassId) (ad : Nat → Nat) (tL z0 : Nat) (hI : gI z0 ad) (v : gV) (u : Int64) (x1 : Int32) (r0 : Int32) (hs : sX5_noun v x1 = some r0) : Met l yX5_noun wsX5_noun ({ frames := 1, cells := 0, slots := 0, locals := 21 } : Room) (gPc D cy ad tL z0 v u [.ref (ad 0), .int x1]) (gQi D cy ad tL z0 v u r0) 0 0 (gA z0) := by
  refine Met.ofW (cc := cX5_noun) (maxL := 2) (ret := (some .int)) (by decide) rfl ?_
  intro p e s m args below meth c s₁ B hml hv
  obtain ⟨rfl, hB0⟩ := hv
  have hP : va_P D vwCl (gW cy ad v u) s.heap := hB0.1
  have hK : gK D cy tL z0 s s.heap := hB0.2
  have hx := B.exec
  have hb := B.bytes
  have hr := B.returns
  have hts := atoms_spec (ws := wsX5_noun) B.pre
  have hown : s.vm.findClass RX5 = some m.cls := findClass_of_methodNamed B.named
  have hlocks := B.notSynchronized
  have hS : va_S (gA z0) s.heap s.heap [] := va_S.rf
  have hl := lv_entry ([.ref (ad 0), .int x1]) (n := 2) (Nat.le_of_ble_eq_true rfl)
  rw [lg_entry_eq]
  generalize (lg_sl ([.ref (ad 0), .int x1]) ++ List.replicate (2 - (lg_sl ([.ref (ad 0), .int x1])).length) Slot.unset).toArray = ls at hl ⊢
  have hl : lv_has ls 2 [(0, .ref (ad 0)), (1, .int x1)] := hl
  have iX5 := (show ∀ w ∈ u_ws RX5 TX5 7, w ∈ wsX5_noun by decide +kernel)
  have f26 := hts (.fieldLink RX5 26 "AdventureParser" "state" "LAdventureParser$State;") (by decide +kernel)
  have iX3 := (show ∀ w ∈ u_ws RX3 TX3 9, w ∈ wsX5_noun by decide +kernel)
  have f37 := hts (.fieldLink RX5 37 "AdventureParser$State" "world" "LAdventureParser$World;") (by decide +kernel)
  have iX4 := (show ∀ w ∈ u_ws RX4 TX4 6, w ∈ wsX5_noun by decide +kernel)
  have f95 := hts (.fieldLink RX5 95 "AdventureParser$World" "nouns" "[I") (by decide +kernel)
  clear hB0
  unfold sX5_noun at hs
  refine lv_aload_n hx hb dX5_noun_0 rfl (lv_at hl 0 rfl) ?_
  refine va_get (D := D) (ci := 5) (v := .ref (ad 8)) (C := RX5) (T := TX5) (N := 7) hx hb hts iX5 hown hK.1 hP 0 (gW_5 kd0) rfl 2 (by decide) f26 (fun _ h9 => h9) rfl dX5_noun_1 ?_
  refine va_get (D := D) (ci := 3) (v := .ref (ad 9)) (C := RX3) (T := TX3) (N := 9) hx hb hts iX3 hown hK.1 hP 8 (gW_3 kd8) rfl 0 (by decide) f37 (fun _ h9 => h9) rfl dX5_noun_4 ?_
  refine lv_iload_n hx hb dX5_noun_7 rfl (lv_at hl 1 rfl) ?_
  refine g_bind hs (fun q_1 hq_1 hs => ?_)
  refine gCV_i (As := [.int x1]) (rest := []) ⟨hx, hb, hml, hown, hts⟩ (cX4_exists_c l D cy ad tL z0 hI v u 9 x1 q_1 kd9 hq_1) (cwV 1 hts gX5_noun_X4_exists rfl rfl rfl (by decide +kernel) ⟨Nat.le_of_ble_eq_true rfl, Nat.le_of_ble_eq_true rfl⟩) hK hP hS (va_recv hK.1 hP (ci := 4) (q0 := 9) rfl (gW_4 kd9)) hl.1 rfl rfl (Nat.le_of_ble_eq_true rfl) dX5_noun_8 ⟨Nat.zero_le _, Nat.zero_le _⟩ (fun H locs hP hS => ?_)
  refine lv_if_ne (tgt := 22) hx hb dX5_noun_11 (by decide) (fun hc => ?_) (fun hc => ?_)
  · have hs := g_f hs hc
    refine lv_aload_n hx hb dX5_noun_22 rfl (lv_at hl 0 rfl) ?_
    refine va_get (D := D) (ci := 5) (v := .ref (ad 8)) (C := RX5) (T := TX5) (N := 7) hx hb hts iX5 hown hK.1 hP 0 (gW_5 kd0) rfl 2 (by decide) f26 (fun _ h9 => h9) rfl dX5_noun_23 ?_
    refine va_get (D := D) (ci := 3) (v := .ref (ad 9)) (C := RX3) (T := TX3) (N := 9) hx hb hts iX3 hown hK.1 hP 8 (gW_3 kd8) rfl 0 (by decide) f37 (fun _ h9 => h9) rfl dX5_noun_26 ?_
    refine va_get (D := D) (ci := 4) (v := .ref (ad 10)) (C := RX4) (T := TX4) (N := 6) hx hb hts iX4 hown hK.1 hP 9 (gW_4 kd9) rfl 0 (by decide) f95 (fun _ h9 => h9) rfl dX5_noun_29 ?_
    refine lv_iload_n hx hb dX5_noun_32 rfl (lv_at hl 1 rfl) ?_
    refine g_chk hs (fun hc hs => ?_)
    refine va_iald hx hb hK.1 hP 10 0 (gW_12 kd10) rfl hc dX5_noun_33 ?_
    exact gRet_i hx hb hr hlocks hK hP hS ⟨g_some hs, rfl⟩ dX5_noun_34
  · have hs := g_t hs hc
    exact g_none hs
set_option maxHeartbeats 4000000 in
set_option maxRecDepth 100000 in
theorem cX5_adjective_c (l : Launch) (D : va_G) (cy : Nat → ClassId) (ad : Nat → Nat) (tL z0 : Nat) (hI : gI z0 ad) (v : gV) (u : Int64) (x1 : Int32) (r0 : Int32) (hs : sX5_adjective v x1 = some r0) : Met l yX5_adjective wsX5_adjective ({ frames := 1, cells := 0, slots := 0, locals := 21 } : Room) (gPc D cy ad tL z0 v u [.ref (ad 0), .int x1]) (gQi D cy ad tL z0 v u r0) 0 0 (gA z0) := by
  refine Met.ofW (cc := cX5_adjective) (maxL := 2) (ret := (some .int)) (by decide) rfl ?_
  intro p e s m args below meth c s₁ B hml hv
  obtain ⟨rfl, hB0⟩ := hv
  have hP : va_P D vwCl (gW cy ad v u) s.heap := hB0.1
  have hK : gK D cy tL z0 s s.heap := hB0.2
  have hx := B.exec
  have hb := B.bytes
  have hr := B.returns
  have hts := atoms_spec (ws := wsX5_adjective) B.pre
  have hown : s.vm.findClass RX5 = some m.cls := findClass_of_methodNamed B.named
  have hlocks := B.notSynchronized
  have hS : va_S (gA z0) s.heap s.heap [] := va_S.rf
  have hl := lv_entry ([.ref (ad 0), .int x1]) (n := 2) (Nat.le_of_ble_eq_true rfl)
  rw [lg_entry_eq]
  generalize (lg_sl ([.ref (ad 0), .int x1]) ++ List.replicate (2 - (lg_sl ([.ref (ad 0), .int x1])).length) Slot.unset).toArray = ls at hl ⊢
  have hl : lv_has ls 2 [(0, .ref (ad 0)), (1, .int x1)] := hl
  have iX5 := (show ∀ w ∈ u_ws RX5 TX5 7, w ∈ wsX5_adjective by decide +kernel)
  have f26 := hts (.fieldLink RX5 26 "AdventureParser" "state" "LAdventureParser$State;") (by decide +kernel)
  have iX3 := (show ∀ w ∈ u_ws RX3 TX3 9, w ∈ wsX5_adjective by decide +kernel)
  have f37 := hts (.fieldLink RX5 37 "AdventureParser$State" "world" "LAdventureParser$World;") (by decide +kernel)
  have iX4 := (show ∀ w ∈ u_ws RX4 TX4 6, w ∈ wsX5_adjective by decide +kernel)
  have f99 := hts (.fieldLink RX5 99 "AdventureParser$World" "adjectives" "[I") (by decide +kernel)
  clear hB0
  unfold sX5_adjective at hs
  refine lv_aload_n hx hb dX5_adjective_0 rfl (lv_at hl 0 rfl) ?_
  refine va_get (D := D) (ci := 5) (v := .ref (ad 8)) (C := RX5) (T := TX5) (N := 7) hx hb hts iX5 hown hK.1 hP 0 (gW_5 kd0) rfl 2 (by decide) f26 (fun _ h9 => h9) rfl dX5_adjective_1 ?_
  refine va_get (D := D) (ci := 3) (v := .ref (ad 9)) (C := RX3) (T := TX3) (N := 9) hx hb hts iX3 hown hK.1 hP 8 (gW_3 kd8) rfl 0 (by decide) f37 (fun _ h9 => h9) rfl dX5_adjective_4 ?_
  refine lv_iload_n hx hb dX5_adjective_7 rfl (lv_at hl 1 rfl) ?_
  refine g_bind hs (fun q_1 hq_1 hs => ?_)
  refine gCV_i (As := [.int x1]) (rest := []) ⟨hx, hb, hml, hown, hts⟩ (cX4_exists_c l D cy ad tL z0 hI v u 9 x1 q_1 kd9 hq_1) (cwV 1 hts gX5_adjective_X4_exists rfl rfl rfl (by decide +kernel) ⟨Nat.le_of_ble_eq_true rfl, Nat.le_of_ble_eq_true rfl⟩) hK hP hS (va_recv hK.1 hP (ci := 4) (q0 := 9) rfl (gW_4 kd9)) hl.1 rfl rfl (Nat.le_of_ble_eq_true rfl) dX5_adjective_8 ⟨Nat.zero_le _, Nat.zero_le _⟩ (fun H locs hP hS => ?_)
  refine lv_if_ne (tgt := 22) hx hb dX5_adjective_11 (by decide) (fun hc => ?_) (fun hc => ?_)
  · have hs := g_f hs hc
    refine lv_aload_n hx hb dX5_adjective_22 rfl (lv_at hl 0 rfl) ?_
    refine va_get (D := D) (ci := 5) (v := .ref (ad 8)) (C := RX5) (T := TX5) (N := 7) hx hb hts iX5 hown hK.1 hP 0 (gW_5 kd0) rfl 2 (by decide) f26 (fun _ h9 => h9) rfl dX5_adjective_23 ?_
    refine va_get (D := D) (ci := 3) (v := .ref (ad 9)) (C := RX3) (T := TX3) (N := 9) hx hb hts iX3 hown hK.1 hP 8 (gW_3 kd8) rfl 0 (by decide) f37 (fun _ h9 => h9) rfl dX5_adjective_26 ?_
    refine va_get (D := D) (ci := 4) (v := .ref (ad 11)) (C := RX4) (T := TX4) (N := 6) hx hb hts iX4 hown hK.1 hP 9 (gW_4 kd9) rfl 1 (by decide) f99 (fun _ h9 => h9) rfl dX5_adjective_29 ?_
    refine lv_iload_n hx hb dX5_adjective_32 rfl (lv_at hl 1 rfl) ?_
    refine g_chk hs (fun hc hs => ?_)
    refine va_iald hx hb hK.1 hP 11 0 (gW_12 kd11) rfl hc dX5_adjective_33 ?_
    exact gRet_i hx hb hr hlocks hK hP hS ⟨g_some hs, rfl⟩ dX5_adjective_34
  · have hs := g_t hs hc
    exact g_none hs
set_option maxHeartbeats 4000000 in
set_option maxRecDepth 100000 in
theorem cX5_place_c (l : Launch) (D : va_G) (cy : Nat → ClassId) (ad : Nat → Nat) (tL z0 : Nat) (hI : gI z0 ad) (v : gV) (u : Int64) (x1 : Int32) (r0 : Int32) (hs : sX5_place v x1 = some r0) : Met l yX5_place wsX5_place ({ frames := 1, cells := 0, slots := 0, locals := 21 } : Room) (gPc D cy ad tL z0 v u [.ref (ad 0), .int x1]) (gQi D cy ad tL z0 v u r0) 0 0 (gA z0) := by
  refine Met.ofW (cc := cX5_place) (maxL := 2) (ret := (some .int)) (by decide) rfl ?_
  intro p e s m args below meth c s₁ B hml hv
  obtain ⟨rfl, hB0⟩ := hv
  have hP : va_P D vwCl (gW cy ad v u) s.heap := hB0.1
  have hK : gK D cy tL z0 s s.heap := hB0.2
  have hx := B.exec
  have hb := B.bytes
  have hr := B.returns
  have hts := atoms_spec (ws := wsX5_place) B.pre
  have hown : s.vm.findClass RX5 = some m.cls := findClass_of_methodNamed B.named
  have hlocks := B.notSynchronized
  have hS : va_S (gA z0) s.heap s.heap [] := va_S.rf
  have hl := lv_entry ([.ref (ad 0), .int x1]) (n := 2) (Nat.le_of_ble_eq_true rfl)
  rw [lg_entry_eq]
  generalize (lg_sl ([.ref (ad 0), .int x1]) ++ List.replicate (2 - (lg_sl ([.ref (ad 0), .int x1])).length) Slot.unset).toArray = ls at hl ⊢
  have hl : lv_has ls 2 [(0, .ref (ad 0)), (1, .int x1)] := hl
  have iX5 := (show ∀ w ∈ u_ws RX5 TX5 7, w ∈ wsX5_place by decide +kernel)
  have f26 := hts (.fieldLink RX5 26 "AdventureParser" "state" "LAdventureParser$State;") (by decide +kernel)
  have iX3 := (show ∀ w ∈ u_ws RX3 TX3 9, w ∈ wsX5_place by decide +kernel)
  have f37 := hts (.fieldLink RX5 37 "AdventureParser$State" "world" "LAdventureParser$World;") (by decide +kernel)
  have iX4 := (show ∀ w ∈ u_ws RX4 TX4 6, w ∈ wsX5_place by decide +kernel)
  have f102 := hts (.fieldLink RX5 102 "AdventureParser$World" "places" "[I") (by decide +kernel)
  clear hB0
  unfold sX5_place at hs
  refine lv_aload_n hx hb dX5_place_0 rfl (lv_at hl 0 rfl) ?_
  refine va_get (D := D) (ci := 5) (v := .ref (ad 8)) (C := RX5) (T := TX5) (N := 7) hx hb hts iX5 hown hK.1 hP 0 (gW_5 kd0) rfl 2 (by decide) f26 (fun _ h9 => h9) rfl dX5_place_1 ?_
  refine va_get (D := D) (ci := 3) (v := .ref (ad 9)) (C := RX3) (T := TX3) (N := 9) hx hb hts iX3 hown hK.1 hP 8 (gW_3 kd8) rfl 0 (by decide) f37 (fun _ h9 => h9) rfl dX5_place_4 ?_
  refine lv_iload_n hx hb dX5_place_7 rfl (lv_at hl 1 rfl) ?_
  refine g_bind hs (fun q_1 hq_1 hs => ?_)
  refine gCV_i (As := [.int x1]) (rest := []) ⟨hx, hb, hml, hown, hts⟩ (cX4_exists_c l D cy ad tL z0 hI v u 9 x1 q_1 kd9 hq_1) (cwV 1 hts gX5_place_X4_exists rfl rfl rfl (by decide +kernel) ⟨Nat.le_of_ble_eq_true rfl, Nat.le_of_ble_eq_true rfl⟩) hK hP hS (va_recv hK.1 hP (ci := 4) (q0 := 9) rfl (gW_4 kd9)) hl.1 rfl rfl (Nat.le_of_ble_eq_true rfl) dX5_place_8 ⟨Nat.zero_le _, Nat.zero_le _⟩ (fun H locs hP hS => ?_)
  refine lv_if_ne (tgt := 22) hx hb dX5_place_11 (by decide) (fun hc => ?_) (fun hc => ?_)
  · have hs := g_f hs hc
    refine lv_aload_n hx hb dX5_place_22 rfl (lv_at hl 0 rfl) ?_
    refine va_get (D := D) (ci := 5) (v := .ref (ad 8)) (C := RX5) (T := TX5) (N := 7) hx hb hts iX5 hown hK.1 hP 0 (gW_5 kd0) rfl 2 (by decide) f26 (fun _ h9 => h9) rfl dX5_place_23 ?_
    refine va_get (D := D) (ci := 3) (v := .ref (ad 9)) (C := RX3) (T := TX3) (N := 9) hx hb hts iX3 hown hK.1 hP 8 (gW_3 kd8) rfl 0 (by decide) f37 (fun _ h9 => h9) rfl dX5_place_26 ?_
    refine va_get (D := D) (ci := 4) (v := .ref (ad 12)) (C := RX4) (T := TX4) (N := 6) hx hb hts iX4 hown hK.1 hP 9 (gW_4 kd9) rfl 2 (by decide) f102 (fun _ h9 => h9) rfl dX5_place_29 ?_
    refine lv_iload_n hx hb dX5_place_32 rfl (lv_at hl 1 rfl) ?_
    refine g_chk hs (fun hc hs => ?_)
    refine va_iald hx hb hK.1 hP 12 0 (gW_12 kd12) rfl hc dX5_place_33 ?_
    exact gRet_i hx hb hr hlocks hK hP hS ⟨g_some hs, rfl⟩ dX5_place_34
  · have hs := g_t hs hc
    exact g_none hs
set_option maxHeartbeats 4000000 in
set_option maxRecDepth 100000 in
theorem cX5_isOpen_c (l : Launch) (D : va_G) (cy : Nat → ClassId) (ad : Nat → Nat) (tL z0 : Nat) (hI : gI z0 ad) (v : gV) (u : Int64) (x1 : Int32) (r0 : Int32) (hs : sX5_isOpen v x1 = some r0) : Met l yX5_isOpen wsX5_isOpen ({ frames := 1, cells := 0, slots := 0, locals := 21 } : Room) (gPc D cy ad tL z0 v u [.ref (ad 0), .int x1]) (gQi D cy ad tL z0 v u r0) 0 0 (gA z0) := by
  refine Met.ofW (cc := cX5_isOpen) (maxL := 2) (ret := (some .boolean)) (by decide) rfl ?_
  intro p e s m args below meth c s₁ B hml hv
  obtain ⟨rfl, hB0⟩ := hv
  have hP : va_P D vwCl (gW cy ad v u) s.heap := hB0.1
  have hK : gK D cy tL z0 s s.heap := hB0.2
  have hx := B.exec
  have hb := B.bytes
  have hr := B.returns
  have hts := atoms_spec (ws := wsX5_isOpen) B.pre
  have hown : s.vm.findClass RX5 = some m.cls := findClass_of_methodNamed B.named
  have hlocks := B.notSynchronized
  have hS : va_S (gA z0) s.heap s.heap [] := va_S.rf
  have hl := lv_entry ([.ref (ad 0), .int x1]) (n := 2) (Nat.le_of_ble_eq_true rfl)
  rw [lg_entry_eq]
  generalize (lg_sl ([.ref (ad 0), .int x1]) ++ List.replicate (2 - (lg_sl ([.ref (ad 0), .int x1])).length) Slot.unset).toArray = ls at hl ⊢
  have hl : lv_has ls 2 [(0, .ref (ad 0)), (1, .int x1)] := hl
  have iX5 := (show ∀ w ∈ u_ws RX5 TX5 7, w ∈ wsX5_isOpen by decide +kernel)
  have f26 := hts (.fieldLink RX5 26 "AdventureParser" "state" "LAdventureParser$State;") (by decide +kernel)
  have iX3 := (show ∀ w ∈ u_ws RX3 TX3 9, w ∈ wsX5_isOpen by decide +kernel)
  have f37 := hts (.fieldLink RX5 37 "AdventureParser$State" "world" "LAdventureParser$World;") (by decide +kernel)
  have iX4 := (show ∀ w ∈ u_ws RX4 TX4 6, w ∈ wsX5_isOpen by decide +kernel)
  have f105 := hts (.fieldLink RX5 105 "AdventureParser$World" "openSet" "I") (by decide +kernel)
  clear hB0
  unfold sX5_isOpen at hs
  refine lv_aload_n hx hb dX5_isOpen_0 rfl (lv_at hl 0 rfl) ?_
  refine va_get (D := D) (ci := 5) (v := .ref (ad 8)) (C := RX5) (T := TX5) (N := 7) hx hb hts iX5 hown hK.1 hP 0 (gW_5 kd0) rfl 2 (by decide) f26 (fun _ h9 => h9) rfl dX5_isOpen_1 ?_
  refine va_get (D := D) (ci := 3) (v := .ref (ad 9)) (C := RX3) (T := TX3) (N := 9) hx hb hts iX3 hown hK.1 hP 8 (gW_3 kd8) rfl 0 (by decide) f37 (fun _ h9 => h9) rfl dX5_isOpen_4 ?_
  refine lv_iload_n hx hb dX5_isOpen_7 rfl (lv_at hl 1 rfl) ?_
  refine g_bind hs (fun q_1 hq_1 hs => ?_)
  refine gCV_i (As := [.int x1]) (rest := []) ⟨hx, hb, hml, hown, hts⟩ (cX4_exists_c l D cy ad tL z0 hI v u 9 x1 q_1 kd9 hq_1) (cwV 1 hts gX5_isOpen_X4_exists rfl rfl rfl (by decide +kernel) ⟨Nat.le_of_ble_eq_true rfl, Nat.le_of_ble_eq_true rfl⟩) hK hP hS (va_recv hK.1 hP (ci := 4) (q0 := 9) rfl (gW_4 kd9)) hl.1 rfl rfl (Nat.le_of_ble_eq_true rfl) dX5_isOpen_8 ⟨Nat.zero_le _, Nat.zero_le _⟩ (fun H locs hP hS => ?_)
  refine lv_if_ne (tgt := 22) hx hb dX5_isOpen_11 (by decide) (fun hc => ?_) (fun hc => ?_)
  · have hs := g_f hs hc
    refine lv_aload_n hx hb dX5_isOpen_22 rfl (lv_at hl 0 rfl) ?_
    refine va_get (D := D) (ci := 5) (v := .ref (ad 8)) (C := RX5) (T := TX5) (N := 7) hx hb hts iX5 hown hK.1 hP 0 (gW_5 kd0) rfl 2 (by decide) f26 (fun _ h9 => h9) rfl dX5_isOpen_23 ?_
    refine va_get (D := D) (ci := 3) (v := .ref (ad 9)) (C := RX3) (T := TX3) (N := 9) hx hb hts iX3 hown hK.1 hP 8 (gW_3 kd8) rfl 0 (by decide) f37 (fun _ h9 => h9) rfl dX5_isOpen_26 ?_
    refine va_get (D := D) (ci := 4) (v := .int (v 9 5)) (C := RX4) (T := TX4) (N := 6) hx hb hts iX4 hown hK.1 hP 9 (gW_4 kd9) rfl 5 (by decide) f105 (fun _ h9 => h9) rfl dX5_isOpen_29 ?_
    refine lv_iconst (v := 1) hx hb dX5_isOpen_32 (by decide) ?_
    refine lv_iload_n hx hb dX5_isOpen_33 rfl (lv_at hl 1 rfl) ?_
    refine lv_ishl hx hb dX5_isOpen_34 ?_
    refine lv_iand hx hb dX5_isOpen_35 ?_
    refine lv_if_eq (tgt := 43) hx hb dX5_isOpen_36 (by decide) (fun hc => ?_) (fun hc => ?_)
    · have hs := g_t hs hc
      refine lv_iconst (v := 0) hx hb dX5_isOpen_43 (by decide) ?_
      exact gRet_z hx hb hr hlocks rfl hK hP hS ⟨g_some hs, rfl⟩ dX5_isOpen_44
    · have hs := g_f hs hc
      refine lv_iconst (v := 1) hx hb dX5_isOpen_39 (by decide) ?_
      refine lv_goto (tgt := 44) hx hb dX5_isOpen_40 (by decide) ?_
      exact gRet_z hx hb hr hlocks rfl hK hP hS ⟨g_some hs, rfl⟩ dX5_isOpen_44
  · have hs := g_t hs hc
    exact g_none hs
set_option maxHeartbeats 4000000 in
set_option maxRecDepth 100000 in
theorem cX5_objectsAt_c (l : Launch) (D : va_G) (cy : Nat → ClassId) (ad : Nat → Nat) (tL z0 : Nat) (hI : gI z0 ad) (n : Nat) (v : gV) (u : Int64) (x1 : Int32) (r0 : Int32) (hs : sX5_objectsAt n v x1 = some r0) : Met l yX5_objectsAt wsX5_objectsAt ({ frames := 1, cells := 0, slots := 0, locals := 23 } : Room) (gPc D cy ad tL z0 v u [.ref (ad 0), .int x1]) (gQi D cy ad tL z0 v u r0) 0 0 (gA z0) := by
  refine Met.ofW (cc := cX5_objectsAt) (maxL := 2) (ret := (some .int)) (by decide) rfl ?_
  intro p e s m args below meth c s₁ B hml hv
  obtain ⟨rfl, hB0⟩ := hv
  have hP : va_P D vwCl (gW cy ad v u) s.heap := hB0.1
  have hK : gK D cy tL z0 s s.heap := hB0.2
  have hx := B.exec
  have hb := B.bytes
  have hr := B.returns
  have hts := atoms_spec (ws := wsX5_objectsAt) B.pre
  have hown : s.vm.findClass RX5 = some m.cls := findClass_of_methodNamed B.named
  have hlocks := B.notSynchronized
  have hS : va_S (gA z0) s.heap s.heap [] := va_S.rf
  have hl := lv_entry ([.ref (ad 0), .int x1]) (n := 2) (Nat.le_of_ble_eq_true rfl)
  rw [lg_entry_eq]
  generalize (lg_sl ([.ref (ad 0), .int x1]) ++ List.replicate (2 - (lg_sl ([.ref (ad 0), .int x1])).length) Slot.unset).toArray = ls at hl ⊢
  have hl : lv_has ls 2 [(0, .ref (ad 0)), (1, .int x1)] := hl
  have iX5 := (show ∀ w ∈ u_ws RX5 TX5 7, w ∈ wsX5_objectsAt by decide +kernel)
  have f26 := hts (.fieldLink RX5 26 "AdventureParser" "state" "LAdventureParser$State;") (by decide +kernel)
  have iX3 := (show ∀ w ∈ u_ws RX3 TX3 9, w ∈ wsX5_objectsAt by decide +kernel)
  have f37 := hts (.fieldLink RX5 37 "AdventureParser$State" "world" "LAdventureParser$World;") (by decide +kernel)
  clear hB0
  have hJ_10 : ∀  (H : Heap) (locs : List Loc) (ls : Array Slot), va_P D vwCl (gW cy ad v u) H → va_S (gA z0) s.heap H locs → lv_has ls 2 [] → sX5_objectsAt_10 n v = some r0 → W p l e (headSpec wsX5_objectsAt ({ frames := 1, cells := 0, slots := 0, locals := 23 } : Room)).room s m ([.ref (ad 0), .int x1] : List Value).toArray below meth c H locs 0 0 (MQ below (gQi D cy ad tL z0 v u r0) ([.ref (ad 0), .int x1] : List Value).toArray s 0 0 (gA z0)) (F0 m 10 ls []) := by
    intro H locs ls hP hS hl hs
    unfold sX5_objectsAt_10 at hs
    exact g_none hs
  unfold sX5_objectsAt at hs
  refine lv_iload_n hx hb dX5_objectsAt_0 rfl (lv_at hl 1 rfl) ?_
  refine lv_if_lt (tgt := 10) hx hb dX5_objectsAt_1 (by decide) (fun hc => ?_) (fun hc => ?_)
  · have hs := g_t hs hc
    exact hJ_10  _ _ _ hP hS (lv_sub hl [] rfl) hs
  · have hs := g_f hs hc
    refine lv_iload_n hx hb dX5_objectsAt_4 rfl (lv_at hl 1 rfl) ?_
    refine lv_bipush (v := 17) hx hb dX5_objectsAt_5 (by decide) ?_
    refine lv_icmp_lt (tgt := 18) hx hb dX5_objectsAt_7 (by decide) (fun hc => ?_) (fun hc => ?_)
    · have hs := g_t hs hc
      refine lv_aload_n hx hb dX5_objectsAt_18 rfl (lv_at hl 0 rfl) ?_
      refine va_get (D := D) (ci := 5) (v := .ref (ad 8)) (C := RX5) (T := TX5) (N := 7) hx hb hts iX5 hown hK.1 hP 0 (gW_5 kd0) rfl 2 (by decide) f26 (fun _ h9 => h9) rfl dX5_objectsAt_19 ?_
      refine va_get (D := D) (ci := 3) (v := .ref (ad 9)) (C := RX3) (T := TX3) (N := 9) hx hb hts iX3 hown hK.1 hP 8 (gW_3 kd8) rfl 0 (by decide) f37 (fun _ h9 => h9) rfl dX5_objectsAt_22 ?_
      refine lv_iload_n hx hb dX5_objectsAt_25 rfl (lv_at hl 1 rfl) ?_
      refine g_bind hs (fun q_1 hq_1 hs => ?_)
      refine gCV_i (As := [.int x1]) (rest := []) ⟨hx, hb, hml, hown, hts⟩ (cX4_setAt_c l D cy ad tL z0 hI n v u 9 x1 q_1 kd9 hq_1) (cwV 1 hts gX5_objectsAt_X4_setAt rfl rfl rfl (by decide +kernel) ⟨Nat.le_of_ble_eq_true rfl, Nat.le_of_ble_eq_true rfl⟩) hK hP hS (va_recv hK.1 hP (ci := 4) (q0 := 9) rfl (gW_4 kd9)) hl.1 rfl rfl (Nat.le_of_ble_eq_true rfl) dX5_objectsAt_26 ⟨Nat.zero_le _, Nat.zero_le _⟩ (fun H locs hP hS => ?_)
      refine g_bind hs (fun q_2 hq_2 hs => ?_)
      refine gCS_i (As := [.int q_1]) (rest := []) ⟨hx, hb, hml, hown, hts⟩ (cJ6_bitCount_0f7a4_c l D cy ad tL z0 hI v u q_1 q_2 hq_2) (va_cwS 1 hts gX5_objectsAt_J6_bitCount_0f7a4 rfl rfl rfl (by decide +kernel) ⟨Nat.le_of_ble_eq_true rfl, Nat.le_of_ble_eq_true rfl⟩) hK hP hS hl.1 rfl rfl (Nat.le_of_ble_eq_true rfl) dX5_objectsAt_29 ⟨Nat.zero_le _, Nat.zero_le _⟩ (fun H locs hP hS => ?_)
      exact gRet_i hx hb hr hlocks hK hP hS ⟨g_some hs, rfl⟩ dX5_objectsAt_32
    · have hs := g_f hs hc
      exact hJ_10  _ _ _ hP hS (lv_sub hl [] rfl) hs
set_option maxHeartbeats 4000000 in
set_option maxRecDepth 100000 in
theorem cX5_room_c (l : Launch) (D : va_G) (cy : Nat → ClassId) (ad : Nat → Nat) (tL z0 : Nat) (hI : gI z0 ad) (v : gV) (u : Int64) (r0 : Int32) (hs : sX5_room v = some r0) : Met l yX5_room wsX5_room ({ frames := 0, cells := 0, slots := 0, locals := 0 } : Room) (gPc D cy ad tL z0 v u [.ref (ad 0)]) (gQi D cy ad tL z0 v u r0) 0 0 (gA z0) := by
  refine Met.ofW (cc := cX5_room) (maxL := 1) (ret := (some .int)) (by decide) rfl ?_
  intro p e s m args below meth c s₁ B hml hv
  obtain ⟨rfl, hB0⟩ := hv
  have hP : va_P D vwCl (gW cy ad v u) s.heap := hB0.1
  have hK : gK D cy tL z0 s s.heap := hB0.2
  have hx := B.exec
  have hb := B.bytes
  have hr := B.returns
  have hts := atoms_spec (ws := wsX5_room) B.pre
  have hown : s.vm.findClass RX5 = some m.cls := findClass_of_methodNamed B.named
  have hlocks := B.notSynchronized
  have hS : va_S (gA z0) s.heap s.heap [] := va_S.rf
  have hl := lv_entry ([.ref (ad 0)]) (n := 1) (Nat.le_of_ble_eq_true rfl)
  rw [lg_entry_eq]
  generalize (lg_sl ([.ref (ad 0)]) ++ List.replicate (1 - (lg_sl ([.ref (ad 0)])).length) Slot.unset).toArray = ls at hl ⊢
  have hl : lv_has ls 1 [(0, .ref (ad 0))] := hl
  have iX5 := (show ∀ w ∈ u_ws RX5 TX5 7, w ∈ wsX5_room by decide +kernel)
  have f26 := hts (.fieldLink RX5 26 "AdventureParser" "state" "LAdventureParser$State;") (by decide +kernel)
  have iX3 := (show ∀ w ∈ u_ws RX3 TX3 9, w ∈ wsX5_room by decide +kernel)
  have f37 := hts (.fieldLink RX5 37 "AdventureParser$State" "world" "LAdventureParser$World;") (by decide +kernel)
  have iX4 := (show ∀ w ∈ u_ws RX4 TX4 6, w ∈ wsX5_room by decide +kernel)
  have f89 := hts (.fieldLink RX5 89 "AdventureParser$World" "room" "I") (by decide +kernel)
  clear hB0
  unfold sX5_room at hs
  refine lv_aload_n hx hb dX5_room_0 rfl (lv_at hl 0 rfl) ?_
  refine va_get (D := D) (ci := 5) (v := .ref (ad 8)) (C := RX5) (T := TX5) (N := 7) hx hb hts iX5 hown hK.1 hP 0 (gW_5 kd0) rfl 2 (by decide) f26 (fun _ h9 => h9) rfl dX5_room_1 ?_
  refine va_get (D := D) (ci := 3) (v := .ref (ad 9)) (C := RX3) (T := TX3) (N := 9) hx hb hts iX3 hown hK.1 hP 8 (gW_3 kd8) rfl 0 (by decide) f37 (fun _ h9 => h9) rfl dX5_room_4 ?_
  refine va_get (D := D) (ci := 4) (v := .int (v 9 4)) (C := RX4) (T := TX4) (N := 6) hx hb hts iX4 hown hK.1 hP 9 (gW_4 kd9) rfl 4 (by decide) f89 (fun _ h9 => h9) rfl dX5_room_7 ?_
  exact gRet_i hx hb hr hlocks hK hP hS ⟨g_some hs, rfl⟩ dX5_room_10
set_option maxHeartbeats 4000000 in
set_option maxRecDepth 100000 in
theorem cX5_visible_c (l : Launch) (D : va_G) (cy : Nat → ClassId) (ad : Nat → Nat) (tL z0 : Nat) (hI : gI z0 ad) (n : Nat) (v : gV) (u : Int64) (r0 : Int32) (hs : sX5_visible n v = some r0) : Met l yX5_visible wsX5_visible ({ frames := 2, cells := 0, slots := 0, locals := 46 } : Room) (gPc D cy ad tL z0 v u [.ref (ad 0)]) (gQi D cy ad tL z0 v u r0) 0 0 (gA z0) := by
  refine Met.ofW (cc := cX5_visible) (maxL := 1) (ret := (some .int)) (by decide) rfl ?_
  intro p e s m args below meth c s₁ B hml hv
  obtain ⟨rfl, hB0⟩ := hv
  have hP : va_P D vwCl (gW cy ad v u) s.heap := hB0.1
  have hK : gK D cy tL z0 s s.heap := hB0.2
  have hx := B.exec
  have hb := B.bytes
  have hr := B.returns
  have hts := atoms_spec (ws := wsX5_visible) B.pre
  have hown : s.vm.findClass RX5 = some m.cls := findClass_of_methodNamed B.named
  have hlocks := B.notSynchronized
  have hS : va_S (gA z0) s.heap s.heap [] := va_S.rf
  have hl := lv_entry ([.ref (ad 0)]) (n := 1) (Nat.le_of_ble_eq_true rfl)
  rw [lg_entry_eq]
  generalize (lg_sl ([.ref (ad 0)]) ++ List.replicate (1 - (lg_sl ([.ref (ad 0)])).length) Slot.unset).toArray = ls at hl ⊢
  have hl : lv_has ls 1 [(0, .ref (ad 0))] := hl
  have iX5 := (show ∀ w ∈ u_ws RX5 TX5 7, w ∈ wsX5_visible by decide +kernel)
  have f26 := hts (.fieldLink RX5 26 "AdventureParser" "state" "LAdventureParser$State;") (by decide +kernel)
  have iX3 := (show ∀ w ∈ u_ws RX3 TX3 9, w ∈ wsX5_visible by decide +kernel)
  have f37 := hts (.fieldLink RX5 37 "AdventureParser$State" "world" "LAdventureParser$World;") (by decide +kernel)
  clear hB0
  unfold sX5_visible at hs
  refine lv_aload_n hx hb dX5_visible_0 rfl (lv_at hl 0 rfl) ?_
  refine va_get (D := D) (ci := 5) (v := .ref (ad 8)) (C := RX5) (T := TX5) (N := 7) hx hb hts iX5 hown hK.1 hP 0 (gW_5 kd0) rfl 2 (by decide) f26 (fun _ h9 => h9) rfl dX5_visible_1 ?_
  refine va_get (D := D) (ci := 3) (v := .ref (ad 9)) (C := RX3) (T := TX3) (N := 9) hx hb hts iX3 hown hK.1 hP 8 (gW_3 kd8) rfl 0 (by decide) f37 (fun _ h9 => h9) rfl dX5_visible_4 ?_
  refine g_bind hs (fun q_1 hq_1 hs => ?_)
  refine gCV_i (As := []) (rest := []) ⟨hx, hb, hml, hown, hts⟩ (cX4_visibleSet_c l D cy ad tL z0 hI n v u 9 q_1 kd9 hq_1) (cwV 0 hts gX5_visible_X4_visibleSet rfl rfl rfl (by decide +kernel) ⟨Nat.le_of_ble_eq_true rfl, Nat.le_of_ble_eq_true rfl⟩) hK hP hS (va_recv hK.1 hP (ci := 4) (q0 := 9) rfl (gW_4 kd9)) hl.1 rfl rfl (Nat.le_of_ble_eq_true rfl) dX5_visible_7 ⟨Nat.zero_le _, Nat.zero_le _⟩ (fun H locs hP hS => ?_)
  exact gRet_i hx hb hr hlocks hK hP hS ⟨g_some hs, rfl⟩ dX5_visible_10
set_option maxHeartbeats 4000000 in
set_option maxRecDepth 100000 in
theorem cX5_suitable_c (l : Launch) (D : va_G) (cy : Nat → ClassId) (ad : Nat → Nat) (tL z0 : Nat) (hI : gI z0 ad) (n : Nat) (v : gV) (u : Int64) (x1 : Int32) (r0 : Int32) (hs : sX5_suitable n v x1 = some r0) : Met l yX5_suitable wsX5_suitable ({ frames := 3, cells := 0, slots := 0, locals := 68 } : Room) (gPc D cy ad tL z0 v u [.ref (ad 0), .int x1]) (gQi D cy ad tL z0 v u r0) 0 0 (gA z0) := by
  refine Met.ofW (cc := cX5_suitable) (maxL := 2) (ret := (some .int)) (by decide) rfl ?_
  intro p e s m args below meth c s₁ B hml hv
  obtain ⟨rfl, hB0⟩ := hv
  have hP : va_P D vwCl (gW cy ad v u) s.heap := hB0.1
  have hK : gK D cy tL z0 s s.heap := hB0.2
  have hx := B.exec
  have hb := B.bytes
  have hr := B.returns
  have hts := atoms_spec (ws := wsX5_suitable) B.pre
  have hown : s.vm.findClass RX5 = some m.cls := findClass_of_methodNamed B.named
  have hlocks := B.notSynchronized
  have hS : va_S (gA z0) s.heap s.heap [] := va_S.rf
  have hl := lv_entry ([.ref (ad 0), .int x1]) (n := 2) (Nat.le_of_ble_eq_true rfl)
  rw [lg_entry_eq]
  generalize (lg_sl ([.ref (ad 0), .int x1]) ++ List.replicate (2 - (lg_sl ([.ref (ad 0), .int x1])).length) Slot.unset).toArray = ls at hl ⊢
  have hl : lv_has ls 2 [(0, .ref (ad 0)), (1, .int x1)] := hl
  have iX5 := (show ∀ w ∈ u_ws RX5 TX5 7, w ∈ wsX5_suitable by decide +kernel)
  have f26 := hts (.fieldLink RX5 26 "AdventureParser" "state" "LAdventureParser$State;") (by decide +kernel)
  have iX3 := (show ∀ w ∈ u_ws RX3 TX3 9, w ∈ wsX5_suitable by decide +kernel)
  have f37 := hts (.fieldLink RX5 37 "AdventureParser$State" "world" "LAdventureParser$World;") (by decide +kernel)
  clear hB0
  have hJ_9 : ∀  (H : Heap) (locs : List Loc) (ls : Array Slot), va_P D vwCl (gW cy ad v u) H → va_S (gA z0) s.heap H locs → lv_has ls 2 [] → sX5_suitable_9 n v = some r0 → W p l e (headSpec wsX5_suitable ({ frames := 3, cells := 0, slots := 0, locals := 68 } : Room)).room s m ([.ref (ad 0), .int x1] : List Value).toArray below meth c H locs 0 0 (MQ below (gQi D cy ad tL z0 v u r0) ([.ref (ad 0), .int x1] : List Value).toArray s 0 0 (gA z0)) (F0 m 9 ls []) := by
    intro H locs ls hP hS hl hs
    unfold sX5_suitable_9 at hs
    exact g_none hs
  unfold sX5_suitable at hs
  refine lv_iload_n hx hb dX5_suitable_0 rfl (lv_at hl 1 rfl) ?_
  refine lv_if_lt (tgt := 9) hx hb dX5_suitable_1 (by decide) (fun hc => ?_) (fun hc => ?_)
  · have hs := g_t hs hc
    exact hJ_9  _ _ _ hP hS (lv_sub hl [] rfl) hs
  · have hs := g_f hs hc
    refine lv_iload_n hx hb dX5_suitable_4 rfl (lv_at hl 1 rfl) ?_
    refine lv_iconst (v := 4) hx hb dX5_suitable_5 (by decide) ?_
    refine lv_icmp_le (tgt := 17) hx hb dX5_suitable_6 (by decide) (fun hc => ?_) (fun hc => ?_)
    · have hs := g_t hs hc
      refine lv_aload_n hx hb dX5_suitable_17 rfl (lv_at hl 0 rfl) ?_
      refine va_get (D := D) (ci := 5) (v := .ref (ad 8)) (C := RX5) (T := TX5) (N := 7) hx hb hts iX5 hown hK.1 hP 0 (gW_5 kd0) rfl 2 (by decide) f26 (fun _ h9 => h9) rfl dX5_suitable_18 ?_
      refine va_get (D := D) (ci := 3) (v := .ref (ad 9)) (C := RX3) (T := TX3) (N := 9) hx hb hts iX3 hown hK.1 hP 8 (gW_3 kd8) rfl 0 (by decide) f37 (fun _ h9 => h9) rfl dX5_suitable_21 ?_
      refine lv_iload_n hx hb dX5_suitable_24 rfl (lv_at hl 1 rfl) ?_
      refine g_bind hs (fun q_1 hq_1 hs => ?_)
      refine gCV_i (As := [.int x1]) (rest := []) ⟨hx, hb, hml, hown, hts⟩ (cX4_suitableSet_c l D cy ad tL z0 hI n v u 9 x1 q_1 kd9 hq_1) (cwV 1 hts gX5_suitable_X4_suitableSet rfl rfl rfl (by decide +kernel) ⟨Nat.le_of_ble_eq_true rfl, Nat.le_of_ble_eq_true rfl⟩) hK hP hS (va_recv hK.1 hP (ci := 4) (q0 := 9) rfl (gW_4 kd9)) hl.1 rfl rfl (Nat.le_of_ble_eq_true rfl) dX5_suitable_25 ⟨Nat.zero_le _, Nat.zero_le _⟩ (fun H locs hP hS => ?_)
      exact gRet_i hx hb hr hlocks hK hP hS ⟨g_some hs, rfl⟩ dX5_suitable_28
    · have hs := g_f hs hc
      exact hJ_9  _ _ _ hP hS (lv_sub hl [] rfl) hs
set_option maxHeartbeats 4000000 in
set_option maxRecDepth 100000 in
theorem cX5_fitting_c (l : Launch) (D : va_G) (cy : Nat → ClassId) (ad : Nat → Nat) (tL z0 : Nat) (hI : gI z0 ad) (n : Nat) (v : gV) (u : Int64) (x1 : Int32) (x2 : Int32) (r0 : Int32) (hs : sX5_fitting n v x1 x2 = some r0) : Met l yX5_fitting wsX5_fitting ({ frames := 1, cells := 0, slots := 0, locals := 24 } : Room) (gPc D cy ad tL z0 v u [.ref (ad 0), .int x1, .int x2]) (gQi D cy ad tL z0 v u r0) 0 0 (gA z0) := by
  refine Met.ofW (cc := cX5_fitting) (maxL := 3) (ret := (some .int)) (by decide) rfl ?_
  intro p e s m args below meth c s₁ B hml hv
  obtain ⟨rfl, hB0⟩ := hv
  have hP : va_P D vwCl (gW cy ad v u) s.heap := hB0.1
  have hK : gK D cy tL z0 s s.heap := hB0.2
  have hx := B.exec
  have hb := B.bytes
  have hr := B.returns
  have hts := atoms_spec (ws := wsX5_fitting) B.pre
  have hown : s.vm.findClass RX5 = some m.cls := findClass_of_methodNamed B.named
  have hlocks := B.notSynchronized
  have hS : va_S (gA z0) s.heap s.heap [] := va_S.rf
  have hl := lv_entry ([.ref (ad 0), .int x1, .int x2]) (n := 3) (Nat.le_of_ble_eq_true rfl)
  rw [lg_entry_eq]
  generalize (lg_sl ([.ref (ad 0), .int x1, .int x2]) ++ List.replicate (3 - (lg_sl ([.ref (ad 0), .int x1, .int x2])).length) Slot.unset).toArray = ls at hl ⊢
  have hl : lv_has ls 3 [(0, .ref (ad 0)), (1, .int x1), (2, .int x2)] := hl
  have iX5 := (show ∀ w ∈ u_ws RX5 TX5 7, w ∈ wsX5_fitting by decide +kernel)
  have f26 := hts (.fieldLink RX5 26 "AdventureParser" "state" "LAdventureParser$State;") (by decide +kernel)
  have iX3 := (show ∀ w ∈ u_ws RX3 TX3 9, w ∈ wsX5_fitting by decide +kernel)
  have f37 := hts (.fieldLink RX5 37 "AdventureParser$State" "world" "LAdventureParser$World;") (by decide +kernel)
  clear hB0
  have hJ_19 : ∀  (H : Heap) (locs : List Loc) (ls : Array Slot), va_P D vwCl (gW cy ad v u) H → va_S (gA z0) s.heap H locs → lv_has ls 3 [] → sX5_fitting_19 n v = some r0 → W p l e (headSpec wsX5_fitting ({ frames := 1, cells := 0, slots := 0, locals := 24 } : Room)).room s m ([.ref (ad 0), .int x1, .int x2] : List Value).toArray below meth c H locs 0 0 (MQ below (gQi D cy ad tL z0 v u r0) ([.ref (ad 0), .int x1, .int x2] : List Value).toArray s 0 0 (gA z0)) (F0 m 19 ls []) := by
    intro H locs ls hP hS hl hs
    unfold sX5_fitting_19 at hs
    exact g_none hs
  have hJ_27 : ∀ (w1 : Int32) (w2 : Int32) (H : Heap) (locs : List Loc) (ls : Array Slot), va_P D vwCl (gW cy ad v u) H → va_S (gA z0) s.heap H locs → lv_has ls 3 [(0, .ref (ad 0)), (1, .int w1), (2, .int w2)] → sX5_fitting_27 n v w1 w2 = some r0 → W p l e (headSpec wsX5_fitting ({ frames := 1, cells := 0, slots := 0, locals := 24 } : Room)).room s m ([.ref (ad 0), .int x1, .int x2] : List Value).toArray below meth c H locs 0 0 (MQ below (gQi D cy ad tL z0 v u r0) ([.ref (ad 0), .int x1, .int x2] : List Value).toArray s 0 0 (gA z0)) (F0 m 27 ls []) := by
    intro w1 w2 H locs ls hP hS hl hs
    unfold sX5_fitting_27 at hs
    refine lv_aload_n hx hb dX5_fitting_27 rfl (lv_at hl 0 rfl) ?_
    refine va_get (D := D) (ci := 5) (v := .ref (ad 8)) (C := RX5) (T := TX5) (N := 7) hx hb hts iX5 hown hK.1 hP 0 (gW_5 kd0) rfl 2 (by decide) f26 (fun _ h9 => h9) rfl dX5_fitting_28 ?_
    refine va_get (D := D) (ci := 3) (v := .ref (ad 9)) (C := RX3) (T := TX3) (N := 9) hx hb hts iX3 hown hK.1 hP 8 (gW_3 kd8) rfl 0 (by decide) f37 (fun _ h9 => h9) rfl dX5_fitting_31 ?_
    refine lv_iload_n hx hb dX5_fitting_34 rfl (lv_at hl 1 rfl) ?_
    refine lv_iload_n hx hb dX5_fitting_35 rfl (lv_at hl 2 rfl) ?_
    refine g_bind hs (fun q_2 hq_2 hs => ?_)
    refine gCV_i (As := [.int w1, .int w2]) (rest := []) ⟨hx, hb, hml, hown, hts⟩ (cX4_fittingSet_c l D cy ad tL z0 hI n v u 9 w1 w2 q_2 kd9 hq_2) (cwV 2 hts gX5_fitting_X4_fittingSet rfl rfl rfl (by decide +kernel) ⟨Nat.le_of_ble_eq_true rfl, Nat.le_of_ble_eq_true rfl⟩) hK hP hS (va_recv hK.1 hP (ci := 4) (q0 := 9) rfl (gW_4 kd9)) hl.1 rfl rfl (Nat.le_of_ble_eq_true rfl) dX5_fitting_36 ⟨Nat.zero_le _, Nat.zero_le _⟩ (fun H locs hP hS => ?_)
    exact gRet_i hx hb hr hlocks hK hP hS ⟨g_some hs, rfl⟩ dX5_fitting_39
  unfold sX5_fitting at hs
  refine lv_iload_n hx hb dX5_fitting_0 rfl (lv_at hl 1 rfl) ?_
  refine g_bind hs (fun q_1 hq_1 hs => ?_)
  refine gCS_i (As := [.int x1]) (rest := []) ⟨hx, hb, hml, hown, hts⟩ (cX5_isNoun_c l D cy ad tL z0 hI v u x1 q_1 hq_1) (va_cwS 1 hts gX5_fitting_X5_isNoun rfl rfl rfl (by decide +kernel) ⟨Nat.le_of_ble_eq_true rfl, Nat.le_of_ble_eq_true rfl⟩) hK hP hS hl.1 rfl rfl (Nat.le_of_ble_eq_true rfl) dX5_fitting_1 ⟨Nat.zero_le _, Nat.zero_le _⟩ (fun H locs hP hS => ?_)
  refine lv_if_eq (tgt := 19) hx hb dX5_fitting_4 (by decide) (fun hc => ?_) (fun hc => ?_)
  · have hs := g_t hs hc
    exact hJ_19  _ _ _ hP hS (lv_sub hl [] rfl) hs
  · have hs := g_f hs hc
    refine lv_iload_n hx hb dX5_fitting_7 rfl (lv_at hl 2 rfl) ?_
    refine lv_iconst (v := (-1)) hx hb dX5_fitting_8 (by decide) ?_
    refine lv_icmp_eq (tgt := 27) hx hb dX5_fitting_9 (by decide) (fun hc => ?_) (fun hc => ?_)
    · have hs := g_t hs hc
      exact hJ_27 x1 x2 _ _ _ hP hS (lv_sub hl [0, 1, 2] rfl) hs
    · have hs := g_f hs hc
      refine lv_iload_n hx hb dX5_fitting_12 rfl (lv_at hl 2 rfl) ?_
      refine g_bind hs (fun q_3 hq_3 hs => ?_)
      refine gCS_i (As := [.int x2]) (rest := []) ⟨hx, hb, hml, hown, hts⟩ (cX5_isAdjective_c l D cy ad tL z0 hI v u x2 q_3 hq_3) (va_cwS 1 hts gX5_fitting_X5_isAdjective rfl rfl rfl (by decide +kernel) ⟨Nat.le_of_ble_eq_true rfl, Nat.le_of_ble_eq_true rfl⟩) hK hP hS hl.1 rfl rfl (Nat.le_of_ble_eq_true rfl) dX5_fitting_13 ⟨Nat.zero_le _, Nat.zero_le _⟩ (fun H locs hP hS => ?_)
      refine lv_if_ne (tgt := 27) hx hb dX5_fitting_16 (by decide) (fun hc => ?_) (fun hc => ?_)
      · have hs := g_f hs hc
        exact hJ_27 x1 x2 _ _ _ hP hS (lv_sub hl [0, 1, 2] rfl) hs
      · have hs := g_t hs hc
        exact hJ_19  _ _ _ hP hS (lv_sub hl [] rfl) hs
set_option maxHeartbeats 4000000 in
set_option maxRecDepth 100000 in
theorem cX5_candidates_c (l : Launch) (D : va_G) (cy : Nat → ClassId) (ad : Nat → Nat) (tL z0 : Nat) (hI : gI z0 ad) (v : gV) (u : Int64) (r0 : Int32) (hs : sX5_candidates v = some r0) : Met l yX5_candidates wsX5_candidates ({ frames := 0, cells := 0, slots := 0, locals := 0 } : Room) (gPc D cy ad tL z0 v u [.ref (ad 0)]) (gQi D cy ad tL z0 v u r0) 0 0 (gA z0) := by
  refine Met.ofW (cc := cX5_candidates) (maxL := 1) (ret := (some .int)) (by decide) rfl ?_
  intro p e s m args below meth c s₁ B hml hv
  obtain ⟨rfl, hB0⟩ := hv
  have hP : va_P D vwCl (gW cy ad v u) s.heap := hB0.1
  have hK : gK D cy tL z0 s s.heap := hB0.2
  have hx := B.exec
  have hb := B.bytes
  have hr := B.returns
  have hts := atoms_spec (ws := wsX5_candidates) B.pre
  have hown : s.vm.findClass RX5 = some m.cls := findClass_of_methodNamed B.named
  have hlocks := B.notSynchronized
  have hS : va_S (gA z0) s.heap s.heap [] := va_S.rf
  have hl := lv_entry ([.ref (ad 0)]) (n := 1) (Nat.le_of_ble_eq_true rfl)
  rw [lg_entry_eq]
  generalize (lg_sl ([.ref (ad 0)]) ++ List.replicate (1 - (lg_sl ([.ref (ad 0)])).length) Slot.unset).toArray = ls at hl ⊢
  have hl : lv_has ls 1 [(0, .ref (ad 0))] := hl
  have iX5 := (show ∀ w ∈ u_ws RX5 TX5 7, w ∈ wsX5_candidates by decide +kernel)
  have f26 := hts (.fieldLink RX5 26 "AdventureParser" "state" "LAdventureParser$State;") (by decide +kernel)
  have iX3 := (show ∀ w ∈ u_ws RX3 TX3 9, w ∈ wsX5_candidates by decide +kernel)
  have f124 := hts (.fieldLink RX5 124 "AdventureParser$State" "candidates" "I") (by decide +kernel)
  clear hB0
  unfold sX5_candidates at hs
  refine lv_aload_n hx hb dX5_candidates_0 rfl (lv_at hl 0 rfl) ?_
  refine va_get (D := D) (ci := 5) (v := .ref (ad 8)) (C := RX5) (T := TX5) (N := 7) hx hb hts iX5 hown hK.1 hP 0 (gW_5 kd0) rfl 2 (by decide) f26 (fun _ h9 => h9) rfl dX5_candidates_1 ?_
  refine va_get (D := D) (ci := 3) (v := .int (v 8 7)) (C := RX3) (T := TX3) (N := 9) hx hb hts iX3 hown hK.1 hP 8 (gW_3 kd8) rfl 7 (by decide) f124 (fun _ h9 => h9) rfl dX5_candidates_4 ?_
  exact gRet_i hx hb hr hlocks hK hP hS ⟨g_some hs, rfl⟩ dX5_candidates_7
set_option maxHeartbeats 4000000 in
set_option maxRecDepth 100000 in
theorem cX5_it_c (l : Launch) (D : va_G) (cy : Nat → ClassId) (ad : Nat → Nat) (tL z0 : Nat) (hI : gI z0 ad) (v : gV) (u : Int64) (r0 : Int32) (hs : sX5_it v = some r0) : Met l yX5_it wsX5_it ({ frames := 0, cells := 0, slots := 0, locals := 0 } : Room) (gPc D cy ad tL z0 v u [.ref (ad 0)]) (gQi D cy ad tL z0 v u r0) 0 0 (gA z0) := by
  refine Met.ofW (cc := cX5_it) (maxL := 1) (ret := (some .int)) (by decide) rfl ?_
  intro p e s m args below meth c s₁ B hml hv
  obtain ⟨rfl, hB0⟩ := hv
  have hP : va_P D vwCl (gW cy ad v u) s.heap := hB0.1
  have hK : gK D cy tL z0 s s.heap := hB0.2
  have hx := B.exec
  have hb := B.bytes
  have hr := B.returns
  have hts := atoms_spec (ws := wsX5_it) B.pre
  have hown : s.vm.findClass RX5 = some m.cls := findClass_of_methodNamed B.named
  have hlocks := B.notSynchronized
  have hS : va_S (gA z0) s.heap s.heap [] := va_S.rf
  have hl := lv_entry ([.ref (ad 0)]) (n := 1) (Nat.le_of_ble_eq_true rfl)
  rw [lg_entry_eq]
  generalize (lg_sl ([.ref (ad 0)]) ++ List.replicate (1 - (lg_sl ([.ref (ad 0)])).length) Slot.unset).toArray = ls at hl ⊢
  have hl : lv_has ls 1 [(0, .ref (ad 0))] := hl
  have iX5 := (show ∀ w ∈ u_ws RX5 TX5 7, w ∈ wsX5_it by decide +kernel)
  have f26 := hts (.fieldLink RX5 26 "AdventureParser" "state" "LAdventureParser$State;") (by decide +kernel)
  have iX3 := (show ∀ w ∈ u_ws RX3 TX3 9, w ∈ wsX5_it by decide +kernel)
  have f127 := hts (.fieldLink RX5 127 "AdventureParser$State" "single" "I") (by decide +kernel)
  clear hB0
  unfold sX5_it at hs
  refine lv_aload_n hx hb dX5_it_0 rfl (lv_at hl 0 rfl) ?_
  refine va_get (D := D) (ci := 5) (v := .ref (ad 8)) (C := RX5) (T := TX5) (N := 7) hx hb hts iX5 hown hK.1 hP 0 (gW_5 kd0) rfl 2 (by decide) f26 (fun _ h9 => h9) rfl dX5_it_1 ?_
  refine va_get (D := D) (ci := 3) (v := .int (v 8 2)) (C := RX3) (T := TX3) (N := 9) hx hb hts iX3 hown hK.1 hP 8 (gW_3 kd8) rfl 2 (by decide) f127 (fun _ h9 => h9) rfl dX5_it_4 ?_
  exact gRet_i hx hb hr hlocks hK hP hS ⟨g_some hs, rfl⟩ dX5_it_7
set_option maxHeartbeats 4000000 in
set_option maxRecDepth 100000 in
theorem cX5_them_c (l : Launch) (D : va_G) (cy : Nat → ClassId) (ad : Nat → Nat) (tL z0 : Nat) (hI : gI z0 ad) (v : gV) (u : Int64) (r0 : Int32) (hs : sX5_them v = some r0) : Met l yX5_them wsX5_them ({ frames := 0, cells := 0, slots := 0, locals := 0 } : Room) (gPc D cy ad tL z0 v u [.ref (ad 0)]) (gQi D cy ad tL z0 v u r0) 0 0 (gA z0) := by
  refine Met.ofW (cc := cX5_them) (maxL := 1) (ret := (some .int)) (by decide) rfl ?_
  intro p e s m args below meth c s₁ B hml hv
  obtain ⟨rfl, hB0⟩ := hv
  have hP : va_P D vwCl (gW cy ad v u) s.heap := hB0.1
  have hK : gK D cy tL z0 s s.heap := hB0.2
  have hx := B.exec
  have hb := B.bytes
  have hr := B.returns
  have hts := atoms_spec (ws := wsX5_them) B.pre
  have hown : s.vm.findClass RX5 = some m.cls := findClass_of_methodNamed B.named
  have hlocks := B.notSynchronized
  have hS : va_S (gA z0) s.heap s.heap [] := va_S.rf
  have hl := lv_entry ([.ref (ad 0)]) (n := 1) (Nat.le_of_ble_eq_true rfl)
  rw [lg_entry_eq]
  generalize (lg_sl ([.ref (ad 0)]) ++ List.replicate (1 - (lg_sl ([.ref (ad 0)])).length) Slot.unset).toArray = ls at hl ⊢
  have hl : lv_has ls 1 [(0, .ref (ad 0))] := hl
  have iX5 := (show ∀ w ∈ u_ws RX5 TX5 7, w ∈ wsX5_them by decide +kernel)
  have f26 := hts (.fieldLink RX5 26 "AdventureParser" "state" "LAdventureParser$State;") (by decide +kernel)
  have iX3 := (show ∀ w ∈ u_ws RX3 TX3 9, w ∈ wsX5_them by decide +kernel)
  have f130 := hts (.fieldLink RX5 130 "AdventureParser$State" "several" "I") (by decide +kernel)
  clear hB0
  unfold sX5_them at hs
  refine lv_aload_n hx hb dX5_them_0 rfl (lv_at hl 0 rfl) ?_
  refine va_get (D := D) (ci := 5) (v := .ref (ad 8)) (C := RX5) (T := TX5) (N := 7) hx hb hts iX5 hown hK.1 hP 0 (gW_5 kd0) rfl 2 (by decide) f26 (fun _ h9 => h9) rfl dX5_them_1 ?_
  refine va_get (D := D) (ci := 3) (v := .int (v 8 3)) (C := RX3) (T := TX3) (N := 9) hx hb hts iX3 hown hK.1 hP 8 (gW_3 kd8) rfl 3 (by decide) f130 (fun _ h9 => h9) rfl dX5_them_4 ?_
  exact gRet_i hx hb hr hlocks hK hP hS ⟨g_some hs, rfl⟩ dX5_them_7
set_option maxHeartbeats 4000000 in
set_option maxRecDepth 100000 in
theorem cX5_appendWord_c (l : Launch) (D : va_G) (cy : Nat → ClassId) (ad : Nat → Nat) (tL z0 : Nat) (hI : gI z0 ad) (n : Nat) (v : gV) (u : Int64) (x1 : Int32) (r0 : Int32) (v1 : gV) (hs : sX5_appendWord n v x1 = some (r0, v1)) : Met l yX5_appendWord wsX5_appendWord ({ frames := 2, cells := 0, slots := 0, locals := 43 } : Room) (gPc D cy ad tL z0 v u [.ref (ad 0), .int x1]) (gQi D cy ad tL z0 v1 u r0) 0 0 (gA z0) := by
  refine Met.ofW (cc := cX5_appendWord) (maxL := 5) (ret := (some .int)) (by decide) rfl ?_
  intro p e s m args below meth c s₁ B hml hv
  obtain ⟨rfl, hB0⟩ := hv
  have hP : va_P D vwCl (gW cy ad v u) s.heap := hB0.1
  have hK : gK D cy tL z0 s s.heap := hB0.2
  have hx := B.exec
  have hb := B.bytes
  have hr := B.returns
  have hts := atoms_spec (ws := wsX5_appendWord) B.pre
  have hown : s.vm.findClass RX5 = some m.cls := findClass_of_methodNamed B.named
  have hlocks := B.notSynchronized
  have hS : va_S (gA z0) s.heap s.heap [] := va_S.rf
  have hl := lv_entry ([.ref (ad 0), .int x1]) (n := 5) (Nat.le_of_ble_eq_true rfl)
  rw [lg_entry_eq]
  generalize (lg_sl ([.ref (ad 0), .int x1]) ++ List.replicate (5 - (lg_sl ([.ref (ad 0), .int x1])).length) Slot.unset).toArray = ls at hl ⊢
  have hl : lv_has ls 5 [(0, .ref (ad 0)), (1, .int x1)] := hl
  have iX5 := (show ∀ w ∈ u_ws RX5 TX5 7, w ∈ wsX5_appendWord by decide +kernel)
  have f12 := hts (.fieldLink RX5 12 "AdventureParser" "buffer" "LAdventureParser$Buffer;") (by decide +kernel)
  have iX0 := (show ∀ w ∈ u_ws RX0 TX0 2, w ∈ wsX5_appendWord by decide +kernel)
  have f139 := hts (.fieldLink RX5 139 "AdventureParser$Buffer" "length" "I") (by decide +kernel)
  clear hB0
  have hJ_10 : ∀ (v : gV)  (H : Heap) (locs : List Loc) (ls : Array Slot), va_P D vwCl (gW cy ad v u) H → va_S (gA z0) s.heap H locs → lv_has ls 5 [] → sX5_appendWord_10 n v = some (r0, v1) → W p l e (headSpec wsX5_appendWord ({ frames := 2, cells := 0, slots := 0, locals := 43 } : Room)).room s m ([.ref (ad 0), .int x1] : List Value).toArray below meth c H locs 0 0 (MQ below (gQi D cy ad tL z0 v1 u r0) ([.ref (ad 0), .int x1] : List Value).toArray s 0 0 (gA z0)) (F0 m 10 ls []) := by
    intro v H locs ls hP hS hl hs
    unfold sX5_appendWord_10 at hs
    exact g_none hs
  have hL_103 : ∀ (k : Nat), ∀ (v : gV) (w1 : Int32) (w3 : Int32) (w4 : Int32) (H : Heap) (locs : List Loc) (ls : Array Slot), va_P D vwCl (gW cy ad v u) H → va_S (gA z0) s.heap H locs → lv_has ls 5 [(0, .ref (ad 0)), (1, .int w1), (3, .int w3), (4, .int w4)] → sX5_appendWord_103 n k v w1 w3 w4 = some (r0, v1) → W p l e (headSpec wsX5_appendWord ({ frames := 2, cells := 0, slots := 0, locals := 43 } : Room)).room s m ([.ref (ad 0), .int x1] : List Value).toArray below meth c H locs 0 0 (MQ below (gQi D cy ad tL z0 v1 u r0) ([.ref (ad 0), .int x1] : List Value).toArray s 0 0 (gA z0)) (F0 m 103 ls []) := by
    intro k
    induction k with
    | zero =>
      intro v w1 w3 w4 H locs ls hP hS hl hs
      exact g_none hs
    | succ k ih =>
      intro v w1 w3 w4 H locs ls hP hS hl hs
      rw [sX5_appendWord_103] at hs
      refine lv_iload hx hb dX5_appendWord_103 (lv_at hl 3 rfl) ?_
      refine lv_iload_n hx hb dX5_appendWord_105 rfl (lv_at hl 2 rfl) ?_
      refine lv_icmp_ge (tgt := 128) hx hb dX5_appendWord_106 (by decide) (fun hc => ?_) (fun hc => ?_)
      · have hs := g_t hs hc
        refine lv_aload_n hx hb dX5_appendWord_128 rfl (lv_at hl 0 rfl) ?_
        refine va_get (D := D) (ci := 5) (v := .ref (ad 1)) (C := RX5) (T := TX5) (N := 7) hx hb hts iX5 hown hK.1 hP 0 (gW_5 kd0) rfl 0 (by decide) f12 (fun _ h9 => h9) rfl dX5_appendWord_129 ?_
        refine va_get (D := D) (ci := 0) (v := .int (v 1 1)) (C := RX0) (T := TX0) (N := 2) hx hb hts iX0 hown hK.1 hP 1 (gW_0 kd1) rfl 1 (by decide) f139 (fun _ h9 => h9) rfl dX5_appendWord_132 ?_
        exact gRet_i hx hb hr hlocks hK hP hS (g_some2 hs) dX5_appendWord_135
      · have hs := g_f hs hc
        refine lv_aload_n hx hb dX5_appendWord_109 rfl (lv_at hl 0 rfl) ?_
        refine va_get (D := D) (ci := 5) (v := .ref (ad 1)) (C := RX5) (T := TX5) (N := 7) hx hb hts iX5 hown hK.1 hP 0 (gW_5 kd0) rfl 0 (by decide) f12 (fun _ h9 => h9) rfl dX5_appendWord_110 ?_
        refine lv_iload_n hx hb dX5_appendWord_113 rfl (lv_at hl 1 rfl) ?_
        refine lv_iload hx hb dX5_appendWord_114 (lv_at hl 3 rfl) ?_
        refine g_bind hs (fun q_3 hq_3 hs => ?_)
        refine gCS_i (As := [.int w1, .int w4]) (rest := [.ref (ad 1)]) ⟨hx, hb, hml, hown, hts⟩ (cX5_letterOf_c l D cy ad tL z0 hI v u w1 w4 q_3 hq_3) (va_cwS 2 hts gX5_appendWord_X5_letterOf rfl rfl rfl (by decide +kernel) ⟨Nat.le_of_ble_eq_true rfl, Nat.le_of_ble_eq_true rfl⟩) hK hP hS hl.1 rfl rfl (Nat.le_of_ble_eq_true rfl) dX5_appendWord_116 ⟨Nat.zero_le _, Nat.zero_le _⟩ (fun H locs hP hS => ?_)
        refine g_bind hs (fun q_4 hq_4 hs => ?_)
        refine gCV_v (As := [.int q_3]) (rest := []) ⟨hx, hb, hml, hown, hts⟩ (cX0_add_c l D cy ad tL z0 hI v u q_3 q_4 hq_4) (cwV 1 hts gX5_appendWord_X0_add rfl rfl rfl (by decide +kernel) ⟨Nat.le_of_ble_eq_true rfl, Nat.le_of_ble_eq_true rfl⟩) hK hP hS (va_recv hK.1 hP (ci := 0) (q0 := 1) rfl (gW_0 kd1)) hl.1 rfl rfl (Nat.le_of_ble_eq_true rfl) dX5_appendWord_119 ⟨Nat.zero_le _, Nat.zero_le _⟩ (fun H locs hP hS => ?_)
        refine lv_iinc (v := w4 + 1) (lv' := [(4, .int (w4 + 1)), (0, .ref (ad 0)), (1, .int w1), (3, .int w3)]) hx hb dX5_appendWord_122 hl (k := 3) rfl rfl (by decide) rfl (fun ls hl => ?_)
        refine lv_goto (tgt := 103) hx hb dX5_appendWord_125 (by decide) ?_
        exact ih q_4 w1 w3 (w4 + 1) _ _ _ hP hS (lv_sub hl [1, 2, 3, 0] rfl) hs
  have hJ_73 : ∀ (v : gV) (w1 : Int32) (w2 : Int32) (w3 : Int32) (t1 : Int32) (H : Heap) (locs : List Loc) (ls : Array Slot), va_P D vwCl (gW cy ad v u) H → va_S (gA z0) s.heap H locs → lv_has ls 5 [(0, .ref (ad 0)), (1, .int w1), (2, .int w2), (3, .int w3)] → sX5_appendWord_73 n v w1 w2 w3 t1 = some (r0, v1) → W p l e (headSpec wsX5_appendWord ({ frames := 2, cells := 0, slots := 0, locals := 43 } : Room)).room s m ([.ref (ad 0), .int x1] : List Value).toArray below meth c H locs 0 0 (MQ below (gQi D cy ad tL z0 v1 u r0) ([.ref (ad 0), .int x1] : List Value).toArray s 0 0 (gA z0)) (F0 m 73 ls [.int t1, .ref (ad 1)]) := by
    intro v w1 w2 w3 t1 H locs ls hP hS hl hs
    unfold sX5_appendWord_73 at hs
    refine g_bind hs (fun q_2 hq_2 hs => ?_)
    refine gCV_i (As := [.int t1]) (rest := []) ⟨hx, hb, hml, hown, hts⟩ (cX0_hasSpaceFor_c l D cy ad tL z0 hI v u t1 q_2 hq_2) (cwV 1 hts gX5_appendWord_X0_hasSpaceFor rfl rfl rfl (by decide +kernel) ⟨Nat.le_of_ble_eq_true rfl, Nat.le_of_ble_eq_true rfl⟩) hK hP hS (va_recv hK.1 hP (ci := 0) (q0 := 1) rfl (gW_0 kd1)) hl.1 rfl rfl (Nat.le_of_ble_eq_true rfl) dX5_appendWord_73 ⟨Nat.zero_le _, Nat.zero_le _⟩ (fun H locs hP hS => ?_)
    refine lv_if_ne (tgt := 87) hx hb dX5_appendWord_76 (by decide) (fun hc => ?_) (fun hc => ?_)
    · have hs := g_f hs hc
      refine lv_iload_n hx hb dX5_appendWord_87 rfl (lv_at hl 2 rfl) ?_
      refine lv_if_eq (tgt := 100) hx hb dX5_appendWord_88 (by decide) (fun hc => ?_) (fun hc => ?_)
      · have hs := g_t hs hc
        refine lv_iconst (v := 0) hx hb dX5_appendWord_100 (by decide) ?_
        refine lv_istore (lv' := [(4, .int 0), (0, .ref (ad 0)), (1, .int w1), (2, .int w2), (3, .int w3)]) hx hb dX5_appendWord_101 hl (by decide) rfl (fun ls hl => ?_)
        exact hL_103 n v w1 w3 0 _ _ _ hP hS (lv_sub hl [1, 2, 4, 0] rfl) hs
      · have hs := g_f hs hc
        refine lv_aload_n hx hb dX5_appendWord_91 rfl (lv_at hl 0 rfl) ?_
        refine va_get (D := D) (ci := 5) (v := .ref (ad 1)) (C := RX5) (T := TX5) (N := 7) hx hb hts iX5 hown hK.1 hP 0 (gW_5 kd0) rfl 0 (by decide) f12 (fun _ h9 => h9) rfl dX5_appendWord_92 ?_
        refine lv_bipush (v := 32) hx hb dX5_appendWord_95 (by decide) ?_
        refine g_bind hs (fun q_5 hq_5 hs => ?_)
        refine gCV_v (As := [.int 32]) (rest := []) ⟨hx, hb, hml, hown, hts⟩ (cX0_add_c l D cy ad tL z0 hI v u 32 q_5 hq_5) (cwV 1 hts gX5_appendWord_X0_add rfl rfl rfl (by decide +kernel) ⟨Nat.le_of_ble_eq_true rfl, Nat.le_of_ble_eq_true rfl⟩) hK hP hS (va_recv hK.1 hP (ci := 0) (q0 := 1) rfl (gW_0 kd1)) hl.1 rfl rfl (Nat.le_of_ble_eq_true rfl) dX5_appendWord_97 ⟨Nat.zero_le _, Nat.zero_le _⟩ (fun H locs hP hS => ?_)
        refine lv_iconst (v := 0) hx hb dX5_appendWord_100 (by decide) ?_
        refine lv_istore (lv' := [(4, .int 0), (0, .ref (ad 0)), (1, .int w1), (2, .int w2), (3, .int w3)]) hx hb dX5_appendWord_101 hl (by decide) rfl (fun ls hl => ?_)
        exact hL_103 n q_5 w1 w3 0 _ _ _ hP hS (lv_sub hl [1, 2, 4, 0] rfl) hs
    · have hs := g_t hs hc
      exact g_none hs
  have hJ_52 : ∀ (v : gV) (w1 : Int32) (t0 : Int32) (H : Heap) (locs : List Loc) (ls : Array Slot), va_P D vwCl (gW cy ad v u) H → va_S (gA z0) s.heap H locs → lv_has ls 5 [(0, .ref (ad 0)), (1, .int w1)] → sX5_appendWord_52 n v w1 t0 = some (r0, v1) → W p l e (headSpec wsX5_appendWord ({ frames := 2, cells := 0, slots := 0, locals := 43 } : Room)).room s m ([.ref (ad 0), .int x1] : List Value).toArray below meth c H locs 0 0 (MQ below (gQi D cy ad tL z0 v1 u r0) ([.ref (ad 0), .int x1] : List Value).toArray s 0 0 (gA z0)) (F0 m 52 ls [.int t0]) := by
    intro v w1 t0 H locs ls hP hS hl hs
    unfold sX5_appendWord_52 at hs
    refine lv_istore_n (lv' := [(2, .int t0), (0, .ref (ad 0)), (1, .int w1)]) hx hb dX5_appendWord_52 rfl hl (by decide) rfl (fun ls hl => ?_)
    refine lv_iload_n hx hb dX5_appendWord_53 rfl (lv_at hl 2 rfl) ?_
    refine g_bind hs (fun q_1 hq_1 hs => ?_)
    refine gCS_i (As := [.int w1]) (rest := []) ⟨hx, hb, hml, hown, hts⟩ (cX5_lengthOf_c l D cy ad tL z0 hI n v u w1 q_1 hq_1) (va_cwS 1 hts gX5_appendWord_X5_lengthOf rfl rfl rfl (by decide +kernel) ⟨Nat.le_of_ble_eq_true rfl, Nat.le_of_ble_eq_true rfl⟩) hK hP hS hl.1 rfl rfl (Nat.le_of_ble_eq_true rfl) dX5_appendWord_54 ⟨Nat.zero_le _, Nat.zero_le _⟩ (fun H locs hP hS => ?_)
    refine lv_istore_n (lv' := [(3, .int q_1), (2, .int t0), (0, .ref (ad 0)), (1, .int w1)]) hx hb dX5_appendWord_57 rfl hl (by decide) rfl (fun ls hl => ?_)
    refine lv_aload_n hx hb dX5_appendWord_58 rfl (lv_at hl 2 rfl) ?_
    refine va_get (D := D) (ci := 5) (v := .ref (ad 1)) (C := RX5) (T := TX5) (N := 7) hx hb hts iX5 hown hK.1 hP 0 (gW_5 kd0) rfl 0 (by decide) f12 (fun _ h9 => h9) rfl dX5_appendWord_59 ?_
    refine lv_iload_n hx hb dX5_appendWord_62 rfl (lv_at hl 1 rfl) ?_
    refine lv_if_eq (tgt := 72) hx hb dX5_appendWord_63 (by decide) (fun hc => ?_) (fun hc => ?_)
    · have hs := g_t hs hc
      refine lv_iload_n hx hb dX5_appendWord_72 rfl (lv_at hl 0 rfl) ?_
      exact hJ_73 v w1 t0 q_1 q_1 _ _ _ hP hS (lv_sub hl [2, 3, 1, 0] rfl) hs
    · have hs := g_f hs hc
      refine lv_iload_n hx hb dX5_appendWord_66 rfl (lv_at hl 0 rfl) ?_
      refine lv_iconst (v := 1) hx hb dX5_appendWord_67 (by decide) ?_
      refine lv_iadd hx hb dX5_appendWord_68 ?_
      refine lv_goto (tgt := 73) hx hb dX5_appendWord_69 (by decide) ?_
      exact hJ_73 v w1 t0 q_1 (q_1 + 1) _ _ _ hP hS (lv_sub hl [2, 3, 1, 0] rfl) hs
  unfold sX5_appendWord at hs
  refine lv_iload_n hx hb dX5_appendWord_0 rfl (lv_at hl 1 rfl) ?_
  refine lv_if_lt (tgt := 10) hx hb dX5_appendWord_1 (by decide) (fun hc => ?_) (fun hc => ?_)
  · have hs := g_t hs hc
    exact hJ_10 v _ _ _ hP hS (lv_sub hl [] rfl) hs
  · have hs := g_f hs hc
    refine lv_iload_n hx hb dX5_appendWord_4 rfl (lv_at hl 1 rfl) ?_
    refine lv_bipush (v := 25) hx hb dX5_appendWord_5 (by decide) ?_
    refine lv_icmp_lt (tgt := 18) hx hb dX5_appendWord_7 (by decide) (fun hc => ?_) (fun hc => ?_)
    · have hs := g_t hs hc
      refine lv_aload_n hx hb dX5_appendWord_18 rfl (lv_at hl 0 rfl) ?_
      refine va_get (D := D) (ci := 5) (v := .ref (ad 1)) (C := RX5) (T := TX5) (N := 7) hx hb hts iX5 hown hK.1 hP 0 (gW_5 kd0) rfl 0 (by decide) f12 (fun _ h9 => h9) rfl dX5_appendWord_19 ?_
      refine va_get (D := D) (ci := 0) (v := .int (v 1 1)) (C := RX0) (T := TX0) (N := 2) hx hb hts iX0 hown hK.1 hP 1 (gW_0 kd1) rfl 1 (by decide) f139 (fun _ h9 => h9) rfl dX5_appendWord_22 ?_
      refine lv_if_le (tgt := 51) hx hb dX5_appendWord_25 (by decide) (fun hc => ?_) (fun hc => ?_)
      · have hs := g_t hs hc
        refine lv_iconst (v := 0) hx hb dX5_appendWord_51 (by decide) ?_
        exact hJ_52 v x1 0 _ _ _ hP hS (lv_sub hl [0, 1] rfl) hs
      · have hs := g_f hs hc
        refine lv_aload_n hx hb dX5_appendWord_28 rfl (lv_at hl 0 rfl) ?_
        refine va_get (D := D) (ci := 5) (v := .ref (ad 1)) (C := RX5) (T := TX5) (N := 7) hx hb hts iX5 hown hK.1 hP 0 (gW_5 kd0) rfl 0 (by decide) f12 (fun _ h9 => h9) rfl dX5_appendWord_29 ?_
        refine lv_aload_n hx hb dX5_appendWord_32 rfl (lv_at hl 0 rfl) ?_
        refine va_get (D := D) (ci := 5) (v := .ref (ad 1)) (C := RX5) (T := TX5) (N := 7) hx hb hts iX5 hown hK.1 hP 0 (gW_5 kd0) rfl 0 (by decide) f12 (fun _ h9 => h9) rfl dX5_appendWord_33 ?_
        refine va_get (D := D) (ci := 0) (v := .int (v 1 1)) (C := RX0) (T := TX0) (N := 2) hx hb hts iX0 hown hK.1 hP 1 (gW_0 kd1) rfl 1 (by decide) f139 (fun _ h9 => h9) rfl dX5_appendWord_36 ?_
        refine lv_iconst (v := 1) hx hb dX5_appendWord_39 (by decide) ?_
        refine lv_isub hx hb dX5_appendWord_40 ?_
        refine g_bind hs (fun q_6 hq_6 hs => ?_)
        refine gCV_i (As := [.int ((v 1 1) - 1)]) (rest := []) ⟨hx, hb, hml, hown, hts⟩ (cX0_isSpace_c l D cy ad tL z0 hI v u ((v 1 1) - 1) q_6 hq_6) (cwV 1 hts gX5_appendWord_X0_isSpace rfl rfl rfl (by decide +kernel) ⟨Nat.le_of_ble_eq_true rfl, Nat.le_of_ble_eq_true rfl⟩) hK hP hS (va_recv hK.1 hP (ci := 0) (q0 := 1) rfl (gW_0 kd1)) hl.1 rfl rfl (Nat.le_of_ble_eq_true rfl) dX5_appendWord_41 ⟨Nat.zero_le _, Nat.zero_le _⟩ (fun H locs hP hS => ?_)
        refine lv_if_ne (tgt := 51) hx hb dX5_appendWord_44 (by decide) (fun hc => ?_) (fun hc => ?_)
        · have hs := g_f hs hc
          refine lv_iconst (v := 0) hx hb dX5_appendWord_51 (by decide) ?_
          exact hJ_52 v x1 0 _ _ _ hP hS (lv_sub hl [0, 1] rfl) hs
        · have hs := g_t hs hc
          refine lv_iconst (v := 1) hx hb dX5_appendWord_47 (by decide) ?_
          refine lv_goto (tgt := 52) hx hb dX5_appendWord_48 (by decide) ?_
          exact hJ_52 v x1 1 _ _ _ hP hS (lv_sub hl [0, 1] rfl) hs
    · have hs := g_f hs hc
      exact hJ_10 v _ _ _ hP hS (lv_sub hl [] rfl) hs
set_option maxHeartbeats 4000000 in
set_option maxRecDepth 100000 in
theorem cX5_clearBuffer_c (l : Launch) (D : va_G) (cy : Nat → ClassId) (ad : Nat → Nat) (tL z0 : Nat) (hI : gI z0 ad) (v : gV) (u : Int64) (r0 : Int32) (v1 : gV) (hs : sX5_clearBuffer v = some (r0, v1)) : Met l yX5_clearBuffer wsX5_clearBuffer ({ frames := 0, cells := 0, slots := 0, locals := 0 } : Room) (gPc D cy ad tL z0 v u [.ref (ad 0)]) (gQi D cy ad tL z0 v1 u r0) 0 0 (gA z0) := by
  refine Met.ofW (cc := cX5_clearBuffer) (maxL := 2) (ret := (some .int)) (by decide) rfl ?_
  intro p e s m args below meth c s₁ B hml hv
  obtain ⟨rfl, hB0⟩ := hv
  have hP : va_P D vwCl (gW cy ad v u) s.heap := hB0.1
  have hK : gK D cy tL z0 s s.heap := hB0.2
  have hx := B.exec
  have hb := B.bytes
  have hr := B.returns
  have hts := atoms_spec (ws := wsX5_clearBuffer) B.pre
  have hown : s.vm.findClass RX5 = some m.cls := findClass_of_methodNamed B.named
  have hlocks := B.notSynchronized
  have hS : va_S (gA z0) s.heap s.heap [] := va_S.rf
  have hl := lv_entry ([.ref (ad 0)]) (n := 2) (Nat.le_of_ble_eq_true rfl)
  rw [lg_entry_eq]
  generalize (lg_sl ([.ref (ad 0)]) ++ List.replicate (2 - (lg_sl ([.ref (ad 0)])).length) Slot.unset).toArray = ls at hl ⊢
  have hl : lv_has ls 2 [(0, .ref (ad 0))] := hl
  have iX5 := (show ∀ w ∈ u_ws RX5 TX5 7, w ∈ wsX5_clearBuffer by decide +kernel)
  have f12 := hts (.fieldLink RX5 12 "AdventureParser" "buffer" "LAdventureParser$Buffer;") (by decide +kernel)
  have iX0 := (show ∀ w ∈ u_ws RX0 TX0 2, w ∈ wsX5_clearBuffer by decide +kernel)
  have f139 := hts (.fieldLink RX5 139 "AdventureParser$Buffer" "length" "I") (by decide +kernel)
  clear hB0
  unfold sX5_clearBuffer at hs
  refine lv_aload_n hx hb dX5_clearBuffer_0 rfl (lv_at hl 0 rfl) ?_
  refine va_get (D := D) (ci := 5) (v := .ref (ad 1)) (C := RX5) (T := TX5) (N := 7) hx hb hts iX5 hown hK.1 hP 0 (gW_5 kd0) rfl 0 (by decide) f12 (fun _ h9 => h9) rfl dX5_clearBuffer_1 ?_
  refine va_get (D := D) (ci := 0) (v := .int (v 1 1)) (C := RX0) (T := TX0) (N := 2) hx hb hts iX0 hown hK.1 hP 1 (gW_0 kd1) rfl 1 (by decide) f139 (fun _ h9 => h9) rfl dX5_clearBuffer_4 ?_
  refine lv_istore_n (lv' := [(1, .int (v 1 1)), (0, .ref (ad 0))]) hx hb dX5_clearBuffer_7 rfl hl (by decide) rfl (fun ls hl => ?_)
  refine lv_aload_n hx hb dX5_clearBuffer_8 rfl (lv_at hl 1 rfl) ?_
  refine va_get (D := D) (ci := 5) (v := .ref (ad 1)) (C := RX5) (T := TX5) (N := 7) hx hb hts iX5 hown hK.1 hP 0 (gW_5 kd0) rfl 0 (by decide) f12 (fun _ h9 => h9) rfl dX5_clearBuffer_9 ?_
  refine lv_iconst (v := 0) hx hb dX5_clearBuffer_12 (by decide) ?_
  refine va_put (D := D) (ci := 0) (v := .int 0) (ty := .int) (C := RX0) (T := TX0) (N := 2) hx hb hts iX0 tyX0 tyX0_ok nmX0 hown hK.1 hP (gD hI) hS 1 (gW_0 kd1) rfl 1 (by decide) f139 (fun _ h9 => h9) rfl (by decide +kernel) rfl rfl (Nat.le_of_ble_eq_true rfl) dX5_clearBuffer_13 (fun H locs hP _ hS => ?_)
  refine g_let hs (fun v_1 ev_1 hs => ?_)
  have hP : va_P D vwCl (gW cy ad v_1 u) H := gPset ((gS_0_1 kd1 0).trans (congrArg (fun z => gW cy ad z u) ev_1.symm)) hP
  refine lv_iload_n hx hb dX5_clearBuffer_16 rfl (lv_at hl 0 rfl) ?_
  exact gRet_i hx hb hr hlocks hK hP hS (g_some2 hs) dX5_clearBuffer_17
set_option maxHeartbeats 4000000 in
set_option maxRecDepth 100000 in
theorem cX5_readBuffer_c (l : Launch) (D : va_G) (cy : Nat → ClassId) (ad : Nat → Nat) (tL z0 : Nat) (hI : gI z0 ad) (n : Nat) (v : gV) (u : Int64) (r0 : Int32) (v1 : gV) (hs : sX5_readBuffer n v = some (r0, v1)) : Met l yX5_readBuffer wsX5_readBuffer ({ frames := 5, cells := 0, slots := 0, locals := 107 } : Room) (gPc D cy ad tL z0 v u [.ref (ad 0)]) (gQi D cy ad tL z0 v1 u r0) 0 0 (gA z0) := by
  refine Met.ofW (cc := cX5_readBuffer) (maxL := 3) (ret := (some .boolean)) (by decide) rfl ?_
  intro p e s m args below meth c s₁ B hml hv
  obtain ⟨rfl, hB0⟩ := hv
  have hP : va_P D vwCl (gW cy ad v u) s.heap := hB0.1
  have hK : gK D cy tL z0 s s.heap := hB0.2
  have hx := B.exec
  have hb := B.bytes
  have hr := B.returns
  have hts := atoms_spec (ws := wsX5_readBuffer) B.pre
  have hown : s.vm.findClass RX5 = some m.cls := findClass_of_methodNamed B.named
  have hlocks := B.notSynchronized
  have hS : va_S (gA z0) s.heap s.heap [] := va_S.rf
  have hl := lv_entry ([.ref (ad 0)]) (n := 3) (Nat.le_of_ble_eq_true rfl)
  rw [lg_entry_eq]
  generalize (lg_sl ([.ref (ad 0)]) ++ List.replicate (3 - (lg_sl ([.ref (ad 0)])).length) Slot.unset).toArray = ls at hl ⊢
  have hl : lv_has ls 3 [(0, .ref (ad 0))] := hl
  have iX5 := (show ∀ w ∈ u_ws RX5 TX5 7, w ∈ wsX5_readBuffer by decide +kernel)
  have f19 := hts (.fieldLink RX5 19 "AdventureParser" "reading" "LAdventureParser$Reading;") (by decide +kernel)
  have f26 := hts (.fieldLink RX5 26 "AdventureParser" "state" "LAdventureParser$State;") (by decide +kernel)
  have f12 := hts (.fieldLink RX5 12 "AdventureParser" "buffer" "LAdventureParser$Buffer;") (by decide +kernel)
  have iX0 := (show ∀ w ∈ u_ws RX0 TX0 2, w ∈ wsX5_readBuffer by decide +kernel)
  have f139 := hts (.fieldLink RX5 139 "AdventureParser$Buffer" "length" "I") (by decide +kernel)
  clear hB0
  have hL_18 : ∀ (k : Nat), ∀ (v : gV) (w1 : Int32) (w2 : Int32) (H : Heap) (locs : List Loc) (ls : Array Slot), va_P D vwCl (gW cy ad v u) H → va_S (gA z0) s.heap H locs → lv_has ls 3 [(0, .ref (ad 0)), (1, .int w1), (2, .int w2)] → sX5_readBuffer_18 n k v w1 w2 = some (r0, v1) → W p l e (headSpec wsX5_readBuffer ({ frames := 5, cells := 0, slots := 0, locals := 107 } : Room)).room s m ([.ref (ad 0)] : List Value).toArray below meth c H locs 0 0 (MQ below (gQi D cy ad tL z0 v1 u r0) ([.ref (ad 0)] : List Value).toArray s 0 0 (gA z0)) (F0 m 18 ls []) := by
    intro k
    induction k with
    | zero =>
      intro v w1 w2 H locs ls hP hS hl hs
      exact g_none hs
    | succ k ih =>
      have hJ_51 : ∀ (v : gV) (w1 : Int32) (w2 : Int32) (H : Heap) (locs : List Loc) (ls : Array Slot), va_P D vwCl (gW cy ad v u) H → va_S (gA z0) s.heap H locs → lv_has ls 3 [(0, .ref (ad 0)), (1, .int w1), (2, .int w2)] → sX5_readBuffer_51 n (sX5_readBuffer_18 n k) v w1 w2 = some (r0, v1) → W p l e (headSpec wsX5_readBuffer ({ frames := 5, cells := 0, slots := 0, locals := 107 } : Room)).room s m ([.ref (ad 0)] : List Value).toArray below meth c H locs 0 0 (MQ below (gQi D cy ad tL z0 v1 u r0) ([.ref (ad 0)] : List Value).toArray s 0 0 (gA z0)) (F0 m 51 ls []) := by
        intro v w1 w2 H locs ls hP hS hl hs
        unfold sX5_readBuffer_51 at hs
        refine lv_aload_n hx hb dX5_readBuffer_51 rfl (lv_at hl 0 rfl) ?_
        refine va_get (D := D) (ci := 5) (v := .ref (ad 3)) (C := RX5) (T := TX5) (N := 7) hx hb hts iX5 hown hK.1 hP 0 (gW_5 kd0) rfl 1 (by decide) f19 (fun _ h9 => h9) rfl dX5_readBuffer_52 ?_
        refine lv_aload_n hx hb dX5_readBuffer_55 rfl (lv_at hl 0 rfl) ?_
        refine va_get (D := D) (ci := 5) (v := .ref (ad 1)) (C := RX5) (T := TX5) (N := 7) hx hb hts iX5 hown hK.1 hP 0 (gW_5 kd0) rfl 0 (by decide) f12 (fun _ h9 => h9) rfl dX5_readBuffer_56 ?_
        refine lv_iload_n hx hb dX5_readBuffer_59 rfl (lv_at hl 1 rfl) ?_
        refine lv_iload_n hx hb dX5_readBuffer_60 rfl (lv_at hl 2 rfl) ?_
        refine g_bind hs (fun q_4 hq_4 hs => ?_)
        refine gCV_i (As := [.int w1, .int w2]) (rest := [.ref (ad 3)]) ⟨hx, hb, hml, hown, hts⟩ (cX0_wordAt_c l D cy ad tL z0 hI n v u w1 w2 q_4 hq_4) (cwV 2 hts gX5_readBuffer_X0_wordAt rfl rfl rfl (by decide +kernel) ⟨Nat.le_of_ble_eq_true rfl, Nat.le_of_ble_eq_true rfl⟩) hK hP hS (va_recv hK.1 hP (ci := 0) (q0 := 1) rfl (gW_0 kd1)) hl.1 rfl rfl (Nat.le_of_ble_eq_true rfl) dX5_readBuffer_61 ⟨Nat.zero_le _, Nat.zero_le _⟩ (fun H locs hP hS => ?_)
        refine g_bind hs (fun q_5 hq_5 hs => ?_)
        refine gCV_i (As := [.int q_4]) (rest := []) ⟨hx, hb, hml, hown, hts⟩ (cX2_read_c l D cy ad tL z0 hI v u q_4 q_5.1 q_5.2 hq_5) (cwV 1 hts gX5_readBuffer_X2_read rfl rfl rfl (by decide +kernel) ⟨Nat.le_of_ble_eq_true rfl, Nat.le_of_ble_eq_true rfl⟩) hK hP hS (va_recv hK.1 hP (ci := 2) (q0 := 3) rfl (gW_2 kd3)) hl.1 rfl rfl (Nat.le_of_ble_eq_true rfl) dX5_readBuffer_64 ⟨Nat.zero_le _, Nat.zero_le _⟩ (fun H locs hP hS => ?_)
        refine lv_if_ne (tgt := 72) hx hb dX5_readBuffer_67 (by decide) (fun hc => ?_) (fun hc => ?_)
        · have hs := g_f hs hc
          refine lv_iload_n hx hb dX5_readBuffer_72 rfl (lv_at hl 2 rfl) ?_
          refine lv_iconst (v := 1) hx hb dX5_readBuffer_73 (by decide) ?_
          refine lv_iadd hx hb dX5_readBuffer_74 ?_
          refine lv_istore_n (lv' := [(1, .int (w2 + 1)), (0, .ref (ad 0)), (2, .int w2)]) hx hb dX5_readBuffer_75 rfl hl (by decide) rfl (fun ls hl => ?_)
          refine lv_iinc (v := w2 + 1) (lv' := [(2, .int (w2 + 1)), (1, .int (w2 + 1)), (0, .ref (ad 0))]) hx hb dX5_readBuffer_76 hl (k := 2) rfl rfl (by decide) rfl (fun ls hl => ?_)
          refine lv_goto (tgt := 18) hx hb dX5_readBuffer_79 (by decide) ?_
          exact ih q_5.2 (w2 + 1) (w2 + 1) _ _ _ hP hS (lv_sub hl [2, 1, 0] rfl) hs
        · have hs := g_t hs hc
          refine lv_iconst (v := 0) hx hb dX5_readBuffer_70 (by decide) ?_
          exact gRet_z hx hb hr hlocks rfl hK hP hS (g_some2 hs) dX5_readBuffer_71
      intro v w1 w2 H locs ls hP hS hl hs
      rw [sX5_readBuffer_18] at hs
      refine lv_iload_n hx hb dX5_readBuffer_18 rfl (lv_at hl 2 rfl) ?_
      refine lv_aload_n hx hb dX5_readBuffer_19 rfl (lv_at hl 0 rfl) ?_
      refine va_get (D := D) (ci := 5) (v := .ref (ad 1)) (C := RX5) (T := TX5) (N := 7) hx hb hts iX5 hown hK.1 hP 0 (gW_5 kd0) rfl 0 (by decide) f12 (fun _ h9 => h9) rfl dX5_readBuffer_20 ?_
      refine va_get (D := D) (ci := 0) (v := .int (v 1 1)) (C := RX0) (T := TX0) (N := 2) hx hb hts iX0 hown hK.1 hP 1 (gW_0 kd1) rfl 1 (by decide) f139 (fun _ h9 => h9) rfl dX5_readBuffer_23 ?_
      refine lv_icmp_gt (tgt := 82) hx hb dX5_readBuffer_26 (by decide) (fun hc => ?_) (fun hc => ?_)
      · have hs := g_t hs hc
        refine lv_aload_n hx hb dX5_readBuffer_82 rfl (lv_at hl 0 rfl) ?_
        refine va_get (D := D) (ci := 5) (v := .ref (ad 3)) (C := RX5) (T := TX5) (N := 7) hx hb hts iX5 hown hK.1 hP 0 (gW_5 kd0) rfl 1 (by decide) f19 (fun _ h9 => h9) rfl dX5_readBuffer_83 ?_
        refine g_bind hs (fun q_3 hq_3 hs => ?_)
        refine gCV_i (As := []) (rest := []) ⟨hx, hb, hml, hown, hts⟩ (cX2_isComplete_c l D cy ad tL z0 hI v u q_3 hq_3) (cwV 0 hts gX5_readBuffer_X2_isComplete rfl rfl rfl (by decide +kernel) ⟨Nat.le_of_ble_eq_true rfl, Nat.le_of_ble_eq_true rfl⟩) hK hP hS (va_recv hK.1 hP (ci := 2) (q0 := 3) rfl (gW_2 kd3)) hl.1 rfl rfl (Nat.le_of_ble_eq_true rfl) dX5_readBuffer_86 ⟨Nat.zero_le _, Nat.zero_le _⟩ (fun H locs hP hS => ?_)
        refine g_chk hs (fun hc hs => ?_)
        exact gRet_z hx hb hr hlocks (g_nz hc) hK hP hS (g_some2 hs) dX5_readBuffer_89
      · have hs := g_f hs hc
        refine lv_iload_n hx hb dX5_readBuffer_29 rfl (lv_at hl 2 rfl) ?_
        refine lv_aload_n hx hb dX5_readBuffer_30 rfl (lv_at hl 0 rfl) ?_
        refine va_get (D := D) (ci := 5) (v := .ref (ad 1)) (C := RX5) (T := TX5) (N := 7) hx hb hts iX5 hown hK.1 hP 0 (gW_5 kd0) rfl 0 (by decide) f12 (fun _ h9 => h9) rfl dX5_readBuffer_31 ?_
        refine va_get (D := D) (ci := 0) (v := .int (v 1 1)) (C := RX0) (T := TX0) (N := 2) hx hb hts iX0 hown hK.1 hP 1 (gW_0 kd1) rfl 1 (by decide) f139 (fun _ h9 => h9) rfl dX5_readBuffer_34 ?_
        refine lv_icmp_eq (tgt := 51) hx hb dX5_readBuffer_37 (by decide) (fun hc => ?_) (fun hc => ?_)
        · have hs := g_t hs hc
          exact hJ_51 v w1 w2 _ _ _ hP hS (lv_sub hl [0, 1, 2] rfl) hs
        · have hs := g_f hs hc
          refine lv_aload_n hx hb dX5_readBuffer_40 rfl (lv_at hl 0 rfl) ?_
          refine va_get (D := D) (ci := 5) (v := .ref (ad 1)) (C := RX5) (T := TX5) (N := 7) hx hb hts iX5 hown hK.1 hP 0 (gW_5 kd0) rfl 0 (by decide) f12 (fun _ h9 => h9) rfl dX5_readBuffer_41 ?_
          refine lv_iload_n hx hb dX5_readBuffer_44 rfl (lv_at hl 2 rfl) ?_
          refine g_bind hs (fun q_6 hq_6 hs => ?_)
          refine gCV_i (As := [.int w2]) (rest := []) ⟨hx, hb, hml, hown, hts⟩ (cX0_isSpace_c l D cy ad tL z0 hI v u w2 q_6 hq_6) (cwV 1 hts gX5_readBuffer_X0_isSpace rfl rfl rfl (by decide +kernel) ⟨Nat.le_of_ble_eq_true rfl, Nat.le_of_ble_eq_true rfl⟩) hK hP hS (va_recv hK.1 hP (ci := 0) (q0 := 1) rfl (gW_0 kd1)) hl.1 rfl rfl (Nat.le_of_ble_eq_true rfl) dX5_readBuffer_45 ⟨Nat.zero_le _, Nat.zero_le _⟩ (fun H locs hP hS => ?_)
          refine lv_if_eq (tgt := 76) hx hb dX5_readBuffer_48 (by decide) (fun hc => ?_) (fun hc => ?_)
          · have hs := g_t hs hc
            refine lv_iinc (v := w2 + 1) (lv' := [(2, .int (w2 + 1)), (0, .ref (ad 0)), (1, .int w1)]) hx hb dX5_readBuffer_76 hl (k := 2) rfl rfl (by decide) rfl (fun ls hl => ?_)
            refine lv_goto (tgt := 18) hx hb dX5_readBuffer_79 (by decide) ?_
            exact ih v w1 (w2 + 1) _ _ _ hP hS (lv_sub hl [1, 2, 0] rfl) hs
          · have hs := g_f hs hc
            exact hJ_51 v w1 w2 _ _ _ hP hS (lv_sub hl [0, 1, 2] rfl) hs
  unfold sX5_readBuffer at hs
  refine lv_aload_n hx hb dX5_readBuffer_0 rfl (lv_at hl 0 rfl) ?_
  refine va_get (D := D) (ci := 5) (v := .ref (ad 3)) (C := RX5) (T := TX5) (N := 7) hx hb hts iX5 hown hK.1 hP 0 (gW_5 kd0) rfl 1 (by decide) f19 (fun _ h9 => h9) rfl dX5_readBuffer_1 ?_
  refine lv_aload_n hx hb dX5_readBuffer_4 rfl (lv_at hl 0 rfl) ?_
  refine va_get (D := D) (ci := 5) (v := .ref (ad 8)) (C := RX5) (T := TX5) (N := 7) hx hb hts iX5 hown hK.1 hP 0 (gW_5 kd0) rfl 2 (by decide) f26 (fun _ h9 => h9) rfl dX5_readBuffer_5 ?_
  refine g_bind hs (fun q_1 hq_1 hs => ?_)
  refine gCV_i (As := []) (rest := [.ref (ad 3)]) ⟨hx, hb, hml, hown, hts⟩ (cX3_isAsking_c l D cy ad tL z0 hI v u 8 q_1 kd8 hq_1) (cwV 0 hts gX5_readBuffer_X3_isAsking rfl rfl rfl (by decide +kernel) ⟨Nat.le_of_ble_eq_true rfl, Nat.le_of_ble_eq_true rfl⟩) hK hP hS (va_recv hK.1 hP (ci := 3) (q0 := 8) rfl (gW_3 kd8)) hl.1 rfl rfl (Nat.le_of_ble_eq_true rfl) dX5_readBuffer_8 ⟨Nat.zero_le _, Nat.zero_le _⟩ (fun H locs hP hS => ?_)
  refine g_bind hs (fun q_2 hq_2 hs => ?_)
  refine gCV_v (As := [.int q_1]) (rest := []) ⟨hx, hb, hml, hown, hts⟩ (cX2_start_c l D cy ad tL z0 hI n v u q_1 q_2 hq_2) (cwV 1 hts gX5_readBuffer_X2_start rfl rfl rfl (by decide +kernel) ⟨Nat.le_of_ble_eq_true rfl, Nat.le_of_ble_eq_true rfl⟩) hK hP hS (va_recv hK.1 hP (ci := 2) (q0 := 3) rfl (gW_2 kd3)) hl.1 rfl rfl (Nat.le_of_ble_eq_true rfl) dX5_readBuffer_11 ⟨Nat.zero_le _, Nat.zero_le _⟩ (fun H locs hP hS => ?_)
  refine lv_iconst (v := 0) hx hb dX5_readBuffer_14 (by decide) ?_
  refine lv_istore_n (lv' := [(1, .int 0), (0, .ref (ad 0))]) hx hb dX5_readBuffer_15 rfl hl (by decide) rfl (fun ls hl => ?_)
  refine lv_iconst (v := 0) hx hb dX5_readBuffer_16 (by decide) ?_
  refine lv_istore_n (lv' := [(2, .int 0), (1, .int 0), (0, .ref (ad 0))]) hx hb dX5_readBuffer_17 rfl hl (by decide) rfl (fun ls hl => ?_)
  exact hL_18 n q_2 0 0 _ _ _ hP hS (lv_sub hl [2, 1, 0] rfl) hs
set_option maxHeartbeats 4000000 in
set_option maxRecDepth 100000 in
theorem cX5_enter_c (l : Launch) (D : va_G) (cy : Nat → ClassId) (ad : Nat → Nat) (tL z0 : Nat) (hI : gI z0 ad) (n : Nat) (v : gV) (u : Int64) (r0 : Int32) (v1 : gV) (hs : sX5_enter n v = some (r0, v1)) : Met l yX5_enter wsX5_enter ({ frames := 6, cells := 0, slots := 0, locals := 141 } : Room) (gPc D cy ad tL z0 v u [.ref (ad 0)]) (gQi D cy ad tL z0 v1 u r0) 0 0 (gA z0) := by
  refine Met.ofW (cc := cX5_enter) (maxL := 1) (ret := (some .int)) (by decide) rfl ?_
  intro p e s m args below meth c s₁ B hml hv
  obtain ⟨rfl, hB0⟩ := hv
  have hP : va_P D vwCl (gW cy ad v u) s.heap := hB0.1
  have hK : gK D cy tL z0 s s.heap := hB0.2
  have hx := B.exec
  have hb := B.bytes
  have hr := B.returns
  have hts := atoms_spec (ws := wsX5_enter) B.pre
  have hown : s.vm.findClass RX5 = some m.cls := findClass_of_methodNamed B.named
  have hlocks := B.notSynchronized
  have hS : va_S (gA z0) s.heap s.heap [] := va_S.rf
  have hl := lv_entry ([.ref (ad 0)]) (n := 1) (Nat.le_of_ble_eq_true rfl)
  rw [lg_entry_eq]
  generalize (lg_sl ([.ref (ad 0)]) ++ List.replicate (1 - (lg_sl ([.ref (ad 0)])).length) Slot.unset).toArray = ls at hl ⊢
  have hl : lv_has ls 1 [(0, .ref (ad 0))] := hl
  have iX5 := (show ∀ w ∈ u_ws RX5 TX5 7, w ∈ wsX5_enter by decide +kernel)
  have f12 := hts (.fieldLink RX5 12 "AdventureParser" "buffer" "LAdventureParser$Buffer;") (by decide +kernel)
  have iX0 := (show ∀ w ∈ u_ws RX0 TX0 2, w ∈ wsX5_enter by decide +kernel)
  have f139 := hts (.fieldLink RX5 139 "AdventureParser$Buffer" "length" "I") (by decide +kernel)
  have f26 := hts (.fieldLink RX5 26 "AdventureParser" "state" "LAdventureParser$State;") (by decide +kernel)
  have f19 := hts (.fieldLink RX5 19 "AdventureParser" "reading" "LAdventureParser$Reading;") (by decide +kernel)
  have iX2 := (show ∀ w ∈ u_ws RX2 TX2 3, w ∈ wsX5_enter by decide +kernel)
  have f176 := hts (.fieldLink RX5 176 "AdventureParser$Reading" "text" "LAdventureParser$Command;") (by decide +kernel)
  clear hB0
  unfold sX5_enter at hs
  refine lv_aload_n hx hb dX5_enter_0 rfl (lv_at hl 0 rfl) ?_
  refine g_bind hs (fun q_1 hq_1 hs => ?_)
  refine gCV_i (As := []) (rest := []) ⟨hx, hb, hml, hown, hts⟩ (cX5_readBuffer_c l D cy ad tL z0 hI n v u q_1.1 q_1.2 hq_1) (cwV 0 hts gX5_enter_X5_readBuffer rfl rfl rfl (by decide +kernel) ⟨Nat.le_of_ble_eq_true rfl, Nat.le_of_ble_eq_true rfl⟩) hK hP hS (va_recv hK.1 hP (ci := 5) (q0 := 0) rfl (gW_5 kd0)) hl.1 rfl rfl (Nat.le_of_ble_eq_true rfl) dX5_enter_1 ⟨Nat.zero_le _, Nat.zero_le _⟩ (fun H locs hP hS => ?_)
  refine lv_if_ne (tgt := 15) hx hb dX5_enter_4 (by decide) (fun hc => ?_) (fun hc => ?_)
  · have hs := g_f hs hc
    refine lv_aload_n hx hb dX5_enter_15 rfl (lv_at hl 0 rfl) ?_
    refine g_bind hs (fun q_2 hq_2 hs => ?_)
    refine gCV_v (As := []) (rest := []) ⟨hx, hb, hml, hown, hts⟩ (cX5_save_c l D cy ad tL z0 hI n q_1.2 u q_2 hq_2) (cwV 0 hts gX5_enter_X5_save rfl rfl rfl (by decide +kernel) ⟨Nat.le_of_ble_eq_true rfl, Nat.le_of_ble_eq_true rfl⟩) hK hP hS (va_recv hK.1 hP (ci := 5) (q0 := 0) rfl (gW_5 kd0)) hl.1 rfl rfl (Nat.le_of_ble_eq_true rfl) dX5_enter_16 ⟨Nat.zero_le _, Nat.zero_le _⟩ (fun H locs hP hS => ?_)
    refine lv_aload_n hx hb dX5_enter_19 rfl (lv_at hl 0 rfl) ?_
    refine va_get (D := D) (ci := 5) (v := .ref (ad 1)) (C := RX5) (T := TX5) (N := 7) hx hb hts iX5 hown hK.1 hP 0 (gW_5 kd0) rfl 0 (by decide) f12 (fun _ h9 => h9) rfl dX5_enter_20 ?_
    refine lv_iconst (v := 0) hx hb dX5_enter_23 (by decide) ?_
    refine va_put (D := D) (ci := 0) (v := .int 0) (ty := .int) (C := RX0) (T := TX0) (N := 2) hx hb hts iX0 tyX0 tyX0_ok nmX0 hown hK.1 hP (gD hI) hS 1 (gW_0 kd1) rfl 1 (by decide) f139 (fun _ h9 => h9) rfl (by decide +kernel) rfl rfl (Nat.le_of_ble_eq_true rfl) dX5_enter_24 (fun H locs hP _ hS => ?_)
    refine g_let hs (fun v_3 ev_3 hs => ?_)
    have hP : va_P D vwCl (gW cy ad v_3 u) H := gPset ((gS_0_1 kd1 0).trans (congrArg (fun z => gW cy ad z u) ev_3.symm)) hP
    refine lv_aload_n hx hb dX5_enter_27 rfl (lv_at hl 0 rfl) ?_
    refine va_get (D := D) (ci := 5) (v := .ref (ad 8)) (C := RX5) (T := TX5) (N := 7) hx hb hts iX5 hown hK.1 hP 0 (gW_5 kd0) rfl 2 (by decide) f26 (fun _ h9 => h9) rfl dX5_enter_28 ?_
    refine lv_aload_n hx hb dX5_enter_31 rfl (lv_at hl 0 rfl) ?_
    refine va_get (D := D) (ci := 5) (v := .ref (ad 3)) (C := RX5) (T := TX5) (N := 7) hx hb hts iX5 hown hK.1 hP 0 (gW_5 kd0) rfl 1 (by decide) f19 (fun _ h9 => h9) rfl dX5_enter_32 ?_
    refine va_get (D := D) (ci := 2) (v := .ref (ad 4)) (C := RX2) (T := TX2) (N := 3) hx hb hts iX2 hown hK.1 hP 3 (gW_2 kd3) rfl 0 (by decide) f176 (fun _ h9 => h9) rfl dX5_enter_35 ?_
    refine g_bind hs (fun q_4 hq_4 hs => ?_)
    refine gCV_i (As := [.ref (ad 4)]) (rest := []) ⟨hx, hb, hml, hown, hts⟩ (cX3_accept_c l D cy ad tL z0 hI n v_3 u 8 4 q_4.1 q_4.2 kd8 kd4 hq_4) (cwV 1 hts gX5_enter_X3_accept rfl rfl rfl (by decide +kernel) ⟨Nat.le_of_ble_eq_true rfl, Nat.le_of_ble_eq_true rfl⟩) hK hP hS (va_recv hK.1 hP (ci := 3) (q0 := 8) rfl (gW_3 kd8)) hl.1 rfl rfl (Nat.le_of_ble_eq_true rfl) dX5_enter_38 ⟨Nat.zero_le _, Nat.zero_le _⟩ (fun H locs hP hS => ?_)
    exact gRet_i hx hb hr hlocks hK hP hS (g_some2 hs) dX5_enter_41
  · have hs := g_t hs hc
    exact g_none hs
set_option maxHeartbeats 4000000 in
set_option maxRecDepth 100000 in
theorem cX5_ifEntered_c (l : Launch) (D : va_G) (cy : Nat → ClassId) (ad : Nat → Nat) (tL z0 : Nat) (hI : gI z0 ad) (n : Nat) (v : gV) (u : Int64) (r0 : Int32) (v1 : gV) (hs : sX5_ifEntered n v = some (r0, v1)) : Met l yX5_ifEntered wsX5_ifEntered ({ frames := 6, cells := 0, slots := 0, locals := 141 } : Room) (gPc D cy ad tL z0 v u [.ref (ad 0)]) (gQi D cy ad tL z0 v1 u r0) 0 0 (gA z0) := by
  refine Met.ofW (cc := cX5_ifEntered) (maxL := 1) (ret := (some .int)) (by decide) rfl ?_
  intro p e s m args below meth c s₁ B hml hv
  obtain ⟨rfl, hB0⟩ := hv
  have hP : va_P D vwCl (gW cy ad v u) s.heap := hB0.1
  have hK : gK D cy tL z0 s s.heap := hB0.2
  have hx := B.exec
  have hb := B.bytes
  have hr := B.returns
  have hts := atoms_spec (ws := wsX5_ifEntered) B.pre
  have hown : s.vm.findClass RX5 = some m.cls := findClass_of_methodNamed B.named
  have hlocks := B.notSynchronized
  have hS : va_S (gA z0) s.heap s.heap [] := va_S.rf
  have hl := lv_entry ([.ref (ad 0)]) (n := 1) (Nat.le_of_ble_eq_true rfl)
  rw [lg_entry_eq]
  generalize (lg_sl ([.ref (ad 0)]) ++ List.replicate (1 - (lg_sl ([.ref (ad 0)])).length) Slot.unset).toArray = ls at hl ⊢
  have hl : lv_has ls 1 [(0, .ref (ad 0))] := hl
  have iX5 := (show ∀ w ∈ u_ws RX5 TX5 7, w ∈ wsX5_ifEntered by decide +kernel)
  have f30 := hts (.fieldLink RX5 30 "AdventureParser" "forecast" "LAdventureParser$State;") (by decide +kernel)
  have f26 := hts (.fieldLink RX5 26 "AdventureParser" "state" "LAdventureParser$State;") (by decide +kernel)
  have f19 := hts (.fieldLink RX5 19 "AdventureParser" "reading" "LAdventureParser$Reading;") (by decide +kernel)
  have iX2 := (show ∀ w ∈ u_ws RX2 TX2 3, w ∈ wsX5_ifEntered by decide +kernel)
  have f176 := hts (.fieldLink RX5 176 "AdventureParser$Reading" "text" "LAdventureParser$Command;") (by decide +kernel)
  clear hB0
  unfold sX5_ifEntered at hs
  refine lv_aload_n hx hb dX5_ifEntered_0 rfl (lv_at hl 0 rfl) ?_
  refine g_bind hs (fun q_1 hq_1 hs => ?_)
  refine gCV_i (As := []) (rest := []) ⟨hx, hb, hml, hown, hts⟩ (cX5_readBuffer_c l D cy ad tL z0 hI n v u q_1.1 q_1.2 hq_1) (cwV 0 hts gX5_ifEntered_X5_readBuffer rfl rfl rfl (by decide +kernel) ⟨Nat.le_of_ble_eq_true rfl, Nat.le_of_ble_eq_true rfl⟩) hK hP hS (va_recv hK.1 hP (ci := 5) (q0 := 0) rfl (gW_5 kd0)) hl.1 rfl rfl (Nat.le_of_ble_eq_true rfl) dX5_ifEntered_1 ⟨Nat.zero_le _, Nat.zero_le _⟩ (fun H locs hP hS => ?_)
  refine lv_if_ne (tgt := 15) hx hb dX5_ifEntered_4 (by decide) (fun hc => ?_) (fun hc => ?_)
  · have hs := g_f hs hc
    refine lv_aload_n hx hb dX5_ifEntered_15 rfl (lv_at hl 0 rfl) ?_
    refine va_get (D := D) (ci := 5) (v := .ref (ad 17)) (C := RX5) (T := TX5) (N := 7) hx hb hts iX5 hown hK.1 hP 0 (gW_5 kd0) rfl 3 (by decide) f30 (fun _ h9 => h9) rfl dX5_ifEntered_16 ?_
    refine lv_aload_n hx hb dX5_ifEntered_19 rfl (lv_at hl 0 rfl) ?_
    refine va_get (D := D) (ci := 5) (v := .ref (ad 8)) (C := RX5) (T := TX5) (N := 7) hx hb hts iX5 hown hK.1 hP 0 (gW_5 kd0) rfl 2 (by decide) f26 (fun _ h9 => h9) rfl dX5_ifEntered_20 ?_
    refine g_bind hs (fun q_2 hq_2 hs => ?_)
    refine gCV_v (As := [.ref (ad 8)]) (rest := []) ⟨hx, hb, hml, hown, hts⟩ (cX3_copyFrom_c l D cy ad tL z0 hI n q_1.2 u 17 8 q_2 kd17 kd8 hq_2) (cwV 1 hts gX5_ifEntered_X3_copyFrom rfl rfl rfl (by decide +kernel) ⟨Nat.le_of_ble_eq_true rfl, Nat.le_of_ble_eq_true rfl⟩) hK hP hS (va_recv hK.1 hP (ci := 3) (q0 := 17) rfl (gW_3 kd17)) hl.1 rfl rfl (Nat.le_of_ble_eq_true rfl) dX5_ifEntered_23 ⟨Nat.zero_le _, Nat.zero_le _⟩ (fun H locs hP hS => ?_)
    refine lv_aload_n hx hb dX5_ifEntered_26 rfl (lv_at hl 0 rfl) ?_
    refine va_get (D := D) (ci := 5) (v := .ref (ad 17)) (C := RX5) (T := TX5) (N := 7) hx hb hts iX5 hown hK.1 hP 0 (gW_5 kd0) rfl 3 (by decide) f30 (fun _ h9 => h9) rfl dX5_ifEntered_27 ?_
    refine lv_aload_n hx hb dX5_ifEntered_30 rfl (lv_at hl 0 rfl) ?_
    refine va_get (D := D) (ci := 5) (v := .ref (ad 3)) (C := RX5) (T := TX5) (N := 7) hx hb hts iX5 hown hK.1 hP 0 (gW_5 kd0) rfl 1 (by decide) f19 (fun _ h9 => h9) rfl dX5_ifEntered_31 ?_
    refine va_get (D := D) (ci := 2) (v := .ref (ad 4)) (C := RX2) (T := TX2) (N := 3) hx hb hts iX2 hown hK.1 hP 3 (gW_2 kd3) rfl 0 (by decide) f176 (fun _ h9 => h9) rfl dX5_ifEntered_34 ?_
    refine g_bind hs (fun q_3 hq_3 hs => ?_)
    refine gCV_i (As := [.ref (ad 4)]) (rest := []) ⟨hx, hb, hml, hown, hts⟩ (cX3_accept_c l D cy ad tL z0 hI n q_2 u 17 4 q_3.1 q_3.2 kd17 kd4 hq_3) (cwV 1 hts gX5_ifEntered_X3_accept rfl rfl rfl (by decide +kernel) ⟨Nat.le_of_ble_eq_true rfl, Nat.le_of_ble_eq_true rfl⟩) hK hP hS (va_recv hK.1 hP (ci := 3) (q0 := 17) rfl (gW_3 kd17)) hl.1 rfl rfl (Nat.le_of_ble_eq_true rfl) dX5_ifEntered_37 ⟨Nat.zero_le _, Nat.zero_le _⟩ (fun H locs hP hS => ?_)
    exact gRet_i hx hb hr hlocks hK hP hS (g_some2 hs) dX5_ifEntered_40
  · have hs := g_t hs hc
    exact g_none hs
set_option maxHeartbeats 4000000 in
set_option maxRecDepth 100000 in
theorem cX5_executed_c (l : Launch) (D : va_G) (cy : Nat → ClassId) (ad : Nat → Nat) (tL z0 : Nat) (hI : gI z0 ad) (v : gV) (u : Int64) (r0 : Int32) (hs : sX5_executed v = some r0) : Met l yX5_executed wsX5_executed ({ frames := 0, cells := 0, slots := 0, locals := 0 } : Room) (gPc D cy ad tL z0 v u [.ref (ad 0)]) (gQi D cy ad tL z0 v u r0) 0 0 (gA z0) := by
  refine Met.ofW (cc := cX5_executed) (maxL := 1) (ret := (some .int)) (by decide) rfl ?_
  intro p e s m args below meth c s₁ B hml hv
  obtain ⟨rfl, hB0⟩ := hv
  have hP : va_P D vwCl (gW cy ad v u) s.heap := hB0.1
  have hK : gK D cy tL z0 s s.heap := hB0.2
  have hx := B.exec
  have hb := B.bytes
  have hr := B.returns
  have hts := atoms_spec (ws := wsX5_executed) B.pre
  have hown : s.vm.findClass RX5 = some m.cls := findClass_of_methodNamed B.named
  have hlocks := B.notSynchronized
  have hS : va_S (gA z0) s.heap s.heap [] := va_S.rf
  have hl := lv_entry ([.ref (ad 0)]) (n := 1) (Nat.le_of_ble_eq_true rfl)
  rw [lg_entry_eq]
  generalize (lg_sl ([.ref (ad 0)]) ++ List.replicate (1 - (lg_sl ([.ref (ad 0)])).length) Slot.unset).toArray = ls at hl ⊢
  have hl : lv_has ls 1 [(0, .ref (ad 0))] := hl
  have iX5 := (show ∀ w ∈ u_ws RX5 TX5 7, w ∈ wsX5_executed by decide +kernel)
  have f26 := hts (.fieldLink RX5 26 "AdventureParser" "state" "LAdventureParser$State;") (by decide +kernel)
  have iX3 := (show ∀ w ∈ u_ws RX3 TX3 9, w ∈ wsX5_executed by decide +kernel)
  have f188 := hts (.fieldLink RX5 188 "AdventureParser$State" "executed" "I") (by decide +kernel)
  clear hB0
  unfold sX5_executed at hs
  refine lv_aload_n hx hb dX5_executed_0 rfl (lv_at hl 0 rfl) ?_
  refine va_get (D := D) (ci := 5) (v := .ref (ad 8)) (C := RX5) (T := TX5) (N := 7) hx hb hts iX5 hown hK.1 hP 0 (gW_5 kd0) rfl 2 (by decide) f26 (fun _ h9 => h9) rfl dX5_executed_1 ?_
  refine va_get (D := D) (ci := 3) (v := .int (v 8 4)) (C := RX3) (T := TX3) (N := 9) hx hb hts iX3 hown hK.1 hP 8 (gW_3 kd8) rfl 4 (by decide) f188 (fun _ h9 => h9) rfl dX5_executed_4 ?_
  exact gRet_i hx hb hr hlocks hK hP hS ⟨g_some hs, rfl⟩ dX5_executed_7
set_option maxHeartbeats 4000000 in
set_option maxRecDepth 100000 in
theorem cX5_failed_c (l : Launch) (D : va_G) (cy : Nat → ClassId) (ad : Nat → Nat) (tL z0 : Nat) (hI : gI z0 ad) (v : gV) (u : Int64) (r0 : Int32) (hs : sX5_failed v = some r0) : Met l yX5_failed wsX5_failed ({ frames := 0, cells := 0, slots := 0, locals := 0 } : Room) (gPc D cy ad tL z0 v u [.ref (ad 0)]) (gQi D cy ad tL z0 v u r0) 0 0 (gA z0) := by
  refine Met.ofW (cc := cX5_failed) (maxL := 1) (ret := (some .int)) (by decide) rfl ?_
  intro p e s m args below meth c s₁ B hml hv
  obtain ⟨rfl, hB0⟩ := hv
  have hP : va_P D vwCl (gW cy ad v u) s.heap := hB0.1
  have hK : gK D cy tL z0 s s.heap := hB0.2
  have hx := B.exec
  have hb := B.bytes
  have hr := B.returns
  have hts := atoms_spec (ws := wsX5_failed) B.pre
  have hown : s.vm.findClass RX5 = some m.cls := findClass_of_methodNamed B.named
  have hlocks := B.notSynchronized
  have hS : va_S (gA z0) s.heap s.heap [] := va_S.rf
  have hl := lv_entry ([.ref (ad 0)]) (n := 1) (Nat.le_of_ble_eq_true rfl)
  rw [lg_entry_eq]
  generalize (lg_sl ([.ref (ad 0)]) ++ List.replicate (1 - (lg_sl ([.ref (ad 0)])).length) Slot.unset).toArray = ls at hl ⊢
  have hl : lv_has ls 1 [(0, .ref (ad 0))] := hl
  have iX5 := (show ∀ w ∈ u_ws RX5 TX5 7, w ∈ wsX5_failed by decide +kernel)
  have f26 := hts (.fieldLink RX5 26 "AdventureParser" "state" "LAdventureParser$State;") (by decide +kernel)
  have iX3 := (show ∀ w ∈ u_ws RX3 TX3 9, w ∈ wsX5_failed by decide +kernel)
  have f191 := hts (.fieldLink RX5 191 "AdventureParser$State" "failed" "I") (by decide +kernel)
  clear hB0
  unfold sX5_failed at hs
  refine lv_aload_n hx hb dX5_failed_0 rfl (lv_at hl 0 rfl) ?_
  refine va_get (D := D) (ci := 5) (v := .ref (ad 8)) (C := RX5) (T := TX5) (N := 7) hx hb hts iX5 hown hK.1 hP 0 (gW_5 kd0) rfl 2 (by decide) f26 (fun _ h9 => h9) rfl dX5_failed_1 ?_
  refine va_get (D := D) (ci := 3) (v := .int (v 8 5)) (C := RX3) (T := TX3) (N := 9) hx hb hts iX3 hown hK.1 hP 8 (gW_3 kd8) rfl 5 (by decide) f191 (fun _ h9 => h9) rfl dX5_failed_4 ?_
  exact gRet_i hx hb hr hlocks hK hP hS ⟨g_some hs, rfl⟩ dX5_failed_7
set_option maxHeartbeats 4000000 in
set_option maxRecDepth 100000 in
theorem cX5_asked_c (l : Launch) (D : va_G) (cy : Nat → ClassId) (ad : Nat → Nat) (tL z0 : Nat) (hI : gI z0 ad) (v : gV) (u : Int64) (r0 : Int32) (hs : sX5_asked v = some r0) : Met l yX5_asked wsX5_asked ({ frames := 0, cells := 0, slots := 0, locals := 0 } : Room) (gPc D cy ad tL z0 v u [.ref (ad 0)]) (gQi D cy ad tL z0 v u r0) 0 0 (gA z0) := by
  refine Met.ofW (cc := cX5_asked) (maxL := 1) (ret := (some .int)) (by decide) rfl ?_
  intro p e s m args below meth c s₁ B hml hv
  obtain ⟨rfl, hB0⟩ := hv
  have hP : va_P D vwCl (gW cy ad v u) s.heap := hB0.1
  have hK : gK D cy tL z0 s s.heap := hB0.2
  have hx := B.exec
  have hb := B.bytes
  have hr := B.returns
  have hts := atoms_spec (ws := wsX5_asked) B.pre
  have hown : s.vm.findClass RX5 = some m.cls := findClass_of_methodNamed B.named
  have hlocks := B.notSynchronized
  have hS : va_S (gA z0) s.heap s.heap [] := va_S.rf
  have hl := lv_entry ([.ref (ad 0)]) (n := 1) (Nat.le_of_ble_eq_true rfl)
  rw [lg_entry_eq]
  generalize (lg_sl ([.ref (ad 0)]) ++ List.replicate (1 - (lg_sl ([.ref (ad 0)])).length) Slot.unset).toArray = ls at hl ⊢
  have hl : lv_has ls 1 [(0, .ref (ad 0))] := hl
  have iX5 := (show ∀ w ∈ u_ws RX5 TX5 7, w ∈ wsX5_asked by decide +kernel)
  have f26 := hts (.fieldLink RX5 26 "AdventureParser" "state" "LAdventureParser$State;") (by decide +kernel)
  have iX3 := (show ∀ w ∈ u_ws RX3 TX3 9, w ∈ wsX5_asked by decide +kernel)
  have f194 := hts (.fieldLink RX5 194 "AdventureParser$State" "asked" "I") (by decide +kernel)
  clear hB0
  unfold sX5_asked at hs
  refine lv_aload_n hx hb dX5_asked_0 rfl (lv_at hl 0 rfl) ?_
  refine va_get (D := D) (ci := 5) (v := .ref (ad 8)) (C := RX5) (T := TX5) (N := 7) hx hb hts iX5 hown hK.1 hP 0 (gW_5 kd0) rfl 2 (by decide) f26 (fun _ h9 => h9) rfl dX5_asked_1 ?_
  refine va_get (D := D) (ci := 3) (v := .int (v 8 6)) (C := RX3) (T := TX3) (N := 9) hx hb hts iX3 hown hK.1 hP 8 (gW_3 kd8) rfl 6 (by decide) f194 (fun _ h9 => h9) rfl dX5_asked_4 ?_
  exact gRet_i hx hb hr hlocks hK hP hS ⟨g_some hs, rfl⟩ dX5_asked_7
set_option maxHeartbeats 4000000 in
set_option maxRecDepth 100000 in
theorem cX5_undo_c (l : Launch) (D : va_G) (cy : Nat → ClassId) (ad : Nat → Nat) (tL z0 : Nat) (hI : gI z0 ad) (n : Nat) (v : gV) (u : Int64) (r0 : Int32) (v1 : gV) (hs : sX5_undo n v = some (r0, v1)) : Met l yX5_undo wsX5_undo ({ frames := 2, cells := 0, slots := 0, locals := 43 } : Room) (gPc D cy ad tL z0 v u [.ref (ad 0)]) (gQi D cy ad tL z0 v1 u r0) 0 0 (gA z0) := by
  refine Met.ofW (cc := cX5_undo) (maxL := 1) (ret := (some .int)) (by decide) rfl ?_
  intro p e s m args below meth c s₁ B hml hv
  obtain ⟨rfl, hB0⟩ := hv
  have hP : va_P D vwCl (gW cy ad v u) s.heap := hB0.1
  have hK : gK D cy tL z0 s s.heap := hB0.2
  have hx := B.exec
  have hb := B.bytes
  have hr := B.returns
  have hts := atoms_spec (ws := wsX5_undo) B.pre
  have hown : s.vm.findClass RX5 = some m.cls := findClass_of_methodNamed B.named
  have hlocks := B.notSynchronized
  have hS : va_S (gA z0) s.heap s.heap [] := va_S.rf
  have hl := lv_entry ([.ref (ad 0)]) (n := 1) (Nat.le_of_ble_eq_true rfl)
  rw [lg_entry_eq]
  generalize (lg_sl ([.ref (ad 0)]) ++ List.replicate (1 - (lg_sl ([.ref (ad 0)])).length) Slot.unset).toArray = ls at hl ⊢
  have hl : lv_has ls 1 [(0, .ref (ad 0))] := hl
  have iX5 := (show ∀ w ∈ u_ws RX5 TX5 7, w ∈ wsX5_undo by decide +kernel)
  have f197 := hts (.fieldLink RX5 197 "AdventureParser" "savedCount" "I") (by decide +kernel)
  have f200 := hts (.fieldLink RX5 200 "AdventureParser" "nextSaved" "I") (by decide +kernel)
  have f26 := hts (.fieldLink RX5 26 "AdventureParser" "state" "LAdventureParser$State;") (by decide +kernel)
  have f33 := hts (.fieldLink RX5 33 "AdventureParser" "saved" "[LAdventureParser$State;") (by decide +kernel)
  clear hB0
  have hJ_33 : ∀ (v : gV) (t1 : Int32) (H : Heap) (locs : List Loc) (ls : Array Slot), va_P D vwCl (gW cy ad v u) H → va_S (gA z0) s.heap H locs → lv_has ls 1 [(0, .ref (ad 0))] → sX5_undo_33 n v t1 = some (r0, v1) → W p l e (headSpec wsX5_undo ({ frames := 2, cells := 0, slots := 0, locals := 43 } : Room)).room s m ([.ref (ad 0)] : List Value).toArray below meth c H locs 0 0 (MQ below (gQi D cy ad tL z0 v1 u r0) ([.ref (ad 0)] : List Value).toArray s 0 0 (gA z0)) (F0 m 33 ls [.int t1, .ref (ad 0)]) := by
    intro v t1 H locs ls hP hS hl hs
    unfold sX5_undo_33 at hs
    refine va_put (D := D) (ci := 5) (v := .int t1) (ty := .int) (C := RX5) (T := TX5) (N := 7) hx hb hts iX5 tyX5 tyX5_ok nmX5 hown hK.1 hP (gD hI) hS 0 (gW_5 kd0) rfl 6 (by decide) f200 (fun _ h9 => h9) rfl (by decide +kernel) rfl rfl (Nat.le_of_ble_eq_true rfl) dX5_undo_33 (fun H locs hP _ hS => ?_)
    refine g_let hs (fun v_1 ev_1 hs => ?_)
    have hP : va_P D vwCl (gW cy ad v_1 u) H := gPset ((gS_5_6 kd0 t1).trans (congrArg (fun z => gW cy ad z u) ev_1.symm)) hP
    refine lv_aload_n hx hb dX5_undo_36 rfl (lv_at hl 0 rfl) ?_
    refine lv_dup hx hb dX5_undo_37 rfl ?_
    refine va_get (D := D) (ci := 5) (v := .int (v_1 0 5)) (C := RX5) (T := TX5) (N := 7) hx hb hts iX5 hown hK.1 hP 0 (gW_5 kd0) rfl 5 (by decide) f197 (fun _ h9 => h9) rfl dX5_undo_38 ?_
    refine lv_iconst (v := 1) hx hb dX5_undo_41 (by decide) ?_
    refine lv_isub hx hb dX5_undo_42 ?_
    refine va_put (D := D) (ci := 5) (v := .int ((v_1 0 5) - 1)) (ty := .int) (C := RX5) (T := TX5) (N := 7) hx hb hts iX5 tyX5 tyX5_ok nmX5 hown hK.1 hP (gD hI) hS 0 (gW_5 kd0) rfl 5 (by decide) f197 (fun _ h9 => h9) rfl (by decide +kernel) rfl rfl (Nat.le_of_ble_eq_true rfl) dX5_undo_43 (fun H locs hP _ hS => ?_)
    refine g_let hs (fun v_2 ev_2 hs => ?_)
    have hP : va_P D vwCl (gW cy ad v_2 u) H := gPset ((gS_5_5 kd0 ((v_1 0 5) - 1)).trans (congrArg (fun z => gW cy ad z u) ev_2.symm)) hP
    refine lv_aload_n hx hb dX5_undo_46 rfl (lv_at hl 0 rfl) ?_
    refine lv_aload_n hx hb dX5_undo_47 rfl (lv_at hl 0 rfl) ?_
    refine va_get (D := D) (ci := 5) (v := .int (v_2 0 6)) (C := RX5) (T := TX5) (N := 7) hx hb hts iX5 hown hK.1 hP 0 (gW_5 kd0) rfl 6 (by decide) f200 (fun _ h9 => h9) rfl dX5_undo_48 ?_
    refine g_bind hs (fun q_3 hq_3 hs => ?_)
    refine gCV_i (As := [.int (v_2 0 6)]) (rest := []) ⟨hx, hb, hml, hown, hts⟩ (cX5_hasRow_c l D cy ad tL z0 hI v_2 u (v_2 0 6) q_3 hq_3) (cwV 1 hts gX5_undo_X5_hasRow rfl rfl rfl (by decide +kernel) ⟨Nat.le_of_ble_eq_true rfl, Nat.le_of_ble_eq_true rfl⟩) hK hP hS (va_recv hK.1 hP (ci := 5) (q0 := 0) rfl (gW_5 kd0)) hl.1 rfl rfl (Nat.le_of_ble_eq_true rfl) dX5_undo_51 ⟨Nat.zero_le _, Nat.zero_le _⟩ (fun H locs hP hS => ?_)
    refine lv_if_eq (tgt := 73) hx hb dX5_undo_54 (by decide) (fun hc => ?_) (fun hc => ?_)
    · have hs := g_t hs hc
      refine lv_aload_n hx hb dX5_undo_73 rfl (lv_at hl 0 rfl) ?_
      refine va_get (D := D) (ci := 5) (v := .int (v_2 0 5)) (C := RX5) (T := TX5) (N := 7) hx hb hts iX5 hown hK.1 hP 0 (gW_5 kd0) rfl 5 (by decide) f197 (fun _ h9 => h9) rfl dX5_undo_74 ?_
      exact gRet_i hx hb hr hlocks hK hP hS (g_some2 hs) dX5_undo_77
    · have hs := g_f hs hc
      refine lv_aload_n hx hb dX5_undo_57 rfl (lv_at hl 0 rfl) ?_
      refine va_get (D := D) (ci := 5) (v := .ref (ad 8)) (C := RX5) (T := TX5) (N := 7) hx hb hts iX5 hown hK.1 hP 0 (gW_5 kd0) rfl 2 (by decide) f26 (fun _ h9 => h9) rfl dX5_undo_58 ?_
      refine lv_aload_n hx hb dX5_undo_61 rfl (lv_at hl 0 rfl) ?_
      refine va_get (D := D) (ci := 5) (v := .ref (ad 26)) (C := RX5) (T := TX5) (N := 7) hx hb hts iX5 hown hK.1 hP 0 (gW_5 kd0) rfl 4 (by decide) f33 (fun _ h9 => h9) rfl dX5_undo_62 ?_
      refine lv_aload_n hx hb dX5_undo_65 rfl (lv_at hl 0 rfl) ?_
      refine va_get (D := D) (ci := 5) (v := .int (v_2 0 6)) (C := RX5) (T := TX5) (N := 7) hx hb hts iX5 hown hK.1 hP 0 (gW_5 kd0) rfl 6 (by decide) f200 (fun _ h9 => h9) rfl dX5_undo_66 ?_
      refine g_chk hs (fun hc hs => ?_)
      refine va_aldq hx hb hK.1 hP 26 2 (gW_13 kd26) rfl hc dX5_undo_69 ?_
      have hc69 := hc
      refine g_bind hs (fun q_4 hq_4 hs => ?_)
      refine gCV_v (As := [.ref (ad (27 + 9 * (v_2 0 6).toNatClampNeg))]) (rest := []) ⟨hx, hb, hml, hown, hts⟩ (cX3_copyFrom_c l D cy ad tL z0 hI n v_2 u 8 (27 + 9 * (v_2 0 6).toNatClampNeg) q_4 kd8 (kd_sv (Nat.not_le.mp fun z9 => hc69 (Or.inr z9))) hq_4) (cwV 1 hts gX5_undo_X3_copyFrom rfl rfl rfl (by decide +kernel) ⟨Nat.le_of_ble_eq_true rfl, Nat.le_of_ble_eq_true rfl⟩) hK hP hS (va_recv hK.1 hP (ci := 3) (q0 := 8) rfl (gW_3 kd8)) hl.1 rfl rfl (Nat.le_of_ble_eq_true rfl) dX5_undo_70 ⟨Nat.zero_le _, Nat.zero_le _⟩ (fun H locs hP hS => ?_)
      refine lv_aload_n hx hb dX5_undo_73 rfl (lv_at hl 0 rfl) ?_
      refine va_get (D := D) (ci := 5) (v := .int (q_4 0 5)) (C := RX5) (T := TX5) (N := 7) hx hb hts iX5 hown hK.1 hP 0 (gW_5 kd0) rfl 5 (by decide) f197 (fun _ h9 => h9) rfl dX5_undo_74 ?_
      exact gRet_i hx hb hr hlocks hK hP hS (g_some2 hs) dX5_undo_77
  unfold sX5_undo at hs
  refine lv_aload_n hx hb dX5_undo_0 rfl (lv_at hl 0 rfl) ?_
  refine va_get (D := D) (ci := 5) (v := .int (v 0 5)) (C := RX5) (T := TX5) (N := 7) hx hb hts iX5 hown hK.1 hP 0 (gW_5 kd0) rfl 5 (by decide) f197 (fun _ h9 => h9) rfl dX5_undo_1 ?_
  refine lv_if_gt (tgt := 15) hx hb dX5_undo_4 (by decide) (fun hc => ?_) (fun hc => ?_)
  · have hs := g_t hs hc
    refine lv_aload_n hx hb dX5_undo_15 rfl (lv_at hl 0 rfl) ?_
    refine lv_aload_n hx hb dX5_undo_16 rfl (lv_at hl 0 rfl) ?_
    refine va_get (D := D) (ci := 5) (v := .int (v 0 6)) (C := RX5) (T := TX5) (N := 7) hx hb hts iX5 hown hK.1 hP 0 (gW_5 kd0) rfl 6 (by decide) f200 (fun _ h9 => h9) rfl dX5_undo_17 ?_
    refine lv_if_le (tgt := 32) hx hb dX5_undo_20 (by decide) (fun hc => ?_) (fun hc => ?_)
    · have hs := g_t hs hc
      refine lv_iconst (v := 5) hx hb dX5_undo_32 (by decide) ?_
      exact hJ_33 v 5 _ _ _ hP hS (lv_sub hl [0] rfl) hs
    · have hs := g_f hs hc
      refine lv_aload_n hx hb dX5_undo_23 rfl (lv_at hl 0 rfl) ?_
      refine va_get (D := D) (ci := 5) (v := .int (v 0 6)) (C := RX5) (T := TX5) (N := 7) hx hb hts iX5 hown hK.1 hP 0 (gW_5 kd0) rfl 6 (by decide) f200 (fun _ h9 => h9) rfl dX5_undo_24 ?_
      refine lv_iconst (v := 1) hx hb dX5_undo_27 (by decide) ?_
      refine lv_isub hx hb dX5_undo_28 ?_
      refine lv_goto (tgt := 33) hx hb dX5_undo_29 (by decide) ?_
      exact hJ_33 v ((v 0 6) - 1) _ _ _ hP hS (lv_sub hl [0] rfl) hs
  · have hs := g_f hs hc
    exact g_none hs
set_option maxHeartbeats 4000000 in
set_option maxRecDepth 100000 in
theorem cX5_savedStates_c (l : Launch) (D : va_G) (cy : Nat → ClassId) (ad : Nat → Nat) (tL z0 : Nat) (hI : gI z0 ad) (v : gV) (u : Int64) (r0 : Int32) (hs : sX5_savedStates v = some r0) : Met l yX5_savedStates wsX5_savedStates ({ frames := 0, cells := 0, slots := 0, locals := 0 } : Room) (gPc D cy ad tL z0 v u [.ref (ad 0)]) (gQi D cy ad tL z0 v u r0) 0 0 (gA z0) := by
  refine Met.ofW (cc := cX5_savedStates) (maxL := 1) (ret := (some .int)) (by decide) rfl ?_
  intro p e s m args below meth c s₁ B hml hv
  obtain ⟨rfl, hB0⟩ := hv
  have hP : va_P D vwCl (gW cy ad v u) s.heap := hB0.1
  have hK : gK D cy tL z0 s s.heap := hB0.2
  have hx := B.exec
  have hb := B.bytes
  have hr := B.returns
  have hts := atoms_spec (ws := wsX5_savedStates) B.pre
  have hown : s.vm.findClass RX5 = some m.cls := findClass_of_methodNamed B.named
  have hlocks := B.notSynchronized
  have hS : va_S (gA z0) s.heap s.heap [] := va_S.rf
  have hl := lv_entry ([.ref (ad 0)]) (n := 1) (Nat.le_of_ble_eq_true rfl)
  rw [lg_entry_eq]
  generalize (lg_sl ([.ref (ad 0)]) ++ List.replicate (1 - (lg_sl ([.ref (ad 0)])).length) Slot.unset).toArray = ls at hl ⊢
  have hl : lv_has ls 1 [(0, .ref (ad 0))] := hl
  have iX5 := (show ∀ w ∈ u_ws RX5 TX5 7, w ∈ wsX5_savedStates by decide +kernel)
  have f197 := hts (.fieldLink RX5 197 "AdventureParser" "savedCount" "I") (by decide +kernel)
  clear hB0
  unfold sX5_savedStates at hs
  refine lv_aload_n hx hb dX5_savedStates_0 rfl (lv_at hl 0 rfl) ?_
  refine va_get (D := D) (ci := 5) (v := .int (v 0 5)) (C := RX5) (T := TX5) (N := 7) hx hb hts iX5 hown hK.1 hP 0 (gW_5 kd0) rfl 5 (by decide) f197 (fun _ h9 => h9) rfl dX5_savedStates_1 ?_
  exact gRet_i hx hb hr hlocks hK hP hS ⟨g_some hs, rfl⟩ dX5_savedStates_4
set_option maxHeartbeats 4000000 in
set_option maxRecDepth 100000 in
theorem cX5_mixed_c (l : Launch) (D : va_G) (cy : Nat → ClassId) (ad : Nat → Nat) (tL z0 : Nat) (hI : gI z0 ad) (v : gV) (u : Int64) (x0 : Int64) (x2 : Int32) (r0 : Int64) (hs : sX5_mixed x0 x2 = some r0) : Met l yX5_mixed wsX5_mixed ({ frames := 0, cells := 0, slots := 0, locals := 0 } : Room) (gPc D cy ad tL z0 v u [.long x0, .int x2]) (gQl D cy ad tL z0 v u r0) 0 0 (gA z0) := by
  refine Met.ofW (cc := cX5_mixed) (maxL := 3) (ret := (some .long)) (by decide) rfl ?_
  intro p e s m args below meth c s₁ B hml hv
  obtain ⟨rfl, hB0⟩ := hv
  have hP : va_P D vwCl (gW cy ad v u) s.heap := hB0.1
  have hK : gK D cy tL z0 s s.heap := hB0.2
  have hx := B.exec
  have hb := B.bytes
  have hr := B.returns
  have hts := atoms_spec (ws := wsX5_mixed) B.pre
  have hown : s.vm.findClass RX5 = some m.cls := findClass_of_methodNamed B.named
  have hlocks := B.notSynchronized
  have hS : va_S (gA z0) s.heap s.heap [] := va_S.rf
  have hl := lv_entry ([.long x0, .int x2]) (n := 3) (Nat.le_of_ble_eq_true rfl)
  rw [lg_entry_eq]
  generalize (lg_sl ([.long x0, .int x2]) ++ List.replicate (3 - (lg_sl ([.long x0, .int x2])).length) Slot.unset).toArray = ls at hl ⊢
  have hl : lv_has ls 3 [(0, .long x0), (2, .int x2)] := hl
  have k234 := hts (.constantLong RX5 234 (31)) (by decide +kernel)
  clear hB0
  unfold sX5_mixed at hs
  refine lv_ldc2 hx hb hown k234 dX5_mixed_0 ?_
  refine lv_lload_n hx hb dX5_mixed_3 rfl (lv_at hl 0 rfl) ?_
  refine lv_lmul hx hb dX5_mixed_4 ?_
  refine lv_iload_n hx hb dX5_mixed_5 rfl (lv_at hl 1 rfl) ?_
  refine lv_i2l hx hb dX5_mixed_6 rfl ?_
  refine lv_ladd hx hb dX5_mixed_7 ?_
  exact gRet_l hx hb hr hlocks hK hP hS ⟨g_some hs, rfl⟩ dX5_mixed_8
set_option maxHeartbeats 4000000 in
set_option maxRecDepth 100000 in
theorem cX5_digest_c (l : Launch) (D : va_G) (cy : Nat → ClassId) (ad : Nat → Nat) (tL z0 : Nat) (hI : gI z0 ad) (n : Nat) (v : gV) (u : Int64) (r0 : Int64) (hs : sX5_digest n v = some r0) : Met l yX5_digest wsX5_digest ({ frames := 3, cells := 0, slots := 0, locals := 68 } : Room) (gPc D cy ad tL z0 v u [.ref (ad 0)]) (gQl D cy ad tL z0 v u r0) 0 0 (gA z0) := by
  refine Met.ofW (cc := cX5_digest) (maxL := 5) (ret := (some .long)) (by decide) rfl ?_
  intro p e s m args below meth c s₁ B hml hv
  obtain ⟨rfl, hB0⟩ := hv
  have hP : va_P D vwCl (gW cy ad v u) s.heap := hB0.1
  have hK : gK D cy tL z0 s s.heap := hB0.2
  have hx := B.exec
  have hb := B.bytes
  have hr := B.returns
  have hts := atoms_spec (ws := wsX5_digest) B.pre
  have hown : s.vm.findClass RX5 = some m.cls := findClass_of_methodNamed B.named
  have hlocks := B.notSynchronized
  have hS : va_S (gA z0) s.heap s.heap [] := va_S.rf
  have hl := lv_entry ([.ref (ad 0)]) (n := 5) (Nat.le_of_ble_eq_true rfl)
  rw [lg_entry_eq]
  generalize (lg_sl ([.ref (ad 0)]) ++ List.replicate (5 - (lg_sl ([.ref (ad 0)])).length) Slot.unset).toArray = ls at hl ⊢
  have hl : lv_has ls 5 [(0, .ref (ad 0))] := hl
  have k206 := hts (.constantLong RX5 206 (8144)) (by decide +kernel)
  have iX5 := (show ∀ w ∈ u_ws RX5 TX5 7, w ∈ wsX5_digest by decide +kernel)
  have f26 := hts (.fieldLink RX5 26 "AdventureParser" "state" "LAdventureParser$State;") (by decide +kernel)
  have iX3 := (show ∀ w ∈ u_ws RX3 TX3 9, w ∈ wsX5_digest by decide +kernel)
  have f37 := hts (.fieldLink RX5 37 "AdventureParser$State" "world" "LAdventureParser$World;") (by decide +kernel)
  have iX4 := (show ∀ w ∈ u_ws RX4 TX4 6, w ∈ wsX5_digest by decide +kernel)
  have f59 := hts (.fieldLink RX5 59 "AdventureParser$World" "count" "I") (by decide +kernel)
  have f95 := hts (.fieldLink RX5 95 "AdventureParser$World" "nouns" "[I") (by decide +kernel)
  have f99 := hts (.fieldLink RX5 99 "AdventureParser$World" "adjectives" "[I") (by decide +kernel)
  have f102 := hts (.fieldLink RX5 102 "AdventureParser$World" "places" "[I") (by decide +kernel)
  have f105 := hts (.fieldLink RX5 105 "AdventureParser$World" "openSet" "I") (by decide +kernel)
  clear hB0
  have hL_171 : ∀ (k : Nat), ∀ (w1 : Int64) (w4 : Int32) (H : Heap) (locs : List Loc) (ls : Array Slot), va_P D vwCl (gW cy ad v u) H → va_S (gA z0) s.heap H locs → lv_has ls 5 [(1, .long w1), (3, .ref (ad 9)), (4, .int w4)] → sX5_digest_171 n k v w1 w4 = some r0 → W p l e (headSpec wsX5_digest ({ frames := 3, cells := 0, slots := 0, locals := 68 } : Room)).room s m ([.ref (ad 0)] : List Value).toArray below meth c H locs 0 0 (MQ below (gQl D cy ad tL z0 v u r0) ([.ref (ad 0)] : List Value).toArray s 0 0 (gA z0)) (F0 m 171 ls []) := by
    intro k
    induction k with
    | zero =>
      intro w1 w4 H locs ls hP hS hl hs
      exact g_none hs
    | succ k ih =>
      intro w1 w4 H locs ls hP hS hl hs
      rw [sX5_digest_171] at hs
      refine lv_iload hx hb dX5_digest_171 (lv_at hl 2 rfl) ?_
      refine lv_iconst (v := 4) hx hb dX5_digest_173 (by decide) ?_
      refine lv_icmp_gt (tgt := 194) hx hb dX5_digest_174 (by decide) (fun hc => ?_) (fun hc => ?_)
      · have hs := g_t hs hc
        refine lv_lload_n hx hb dX5_digest_194 rfl (lv_at hl 0 rfl) ?_
        exact gRet_l hx hb hr hlocks hK hP hS ⟨g_some hs, rfl⟩ dX5_digest_195
      · have hs := g_f hs hc
        refine lv_lload_n hx hb dX5_digest_177 rfl (lv_at hl 0 rfl) ?_
        refine lv_aload_n hx hb dX5_digest_178 rfl (lv_at hl 1 rfl) ?_
        refine lv_iload hx hb dX5_digest_179 (lv_at hl 2 rfl) ?_
        refine g_bind hs (fun q_19 hq_19 hs => ?_)
        refine gCV_i (As := [.int w4]) (rest := [.long w1]) ⟨hx, hb, hml, hown, hts⟩ (cX4_suitableSet_c l D cy ad tL z0 hI n v u 9 w4 q_19 kd9 hq_19) (cwV 1 hts gX5_digest_X4_suitableSet rfl rfl rfl (by decide +kernel) ⟨Nat.le_of_ble_eq_true rfl, Nat.le_of_ble_eq_true rfl⟩) hK hP hS (va_recv hK.1 hP (ci := 4) (q0 := 9) rfl (gW_4 kd9)) hl.1 rfl rfl (Nat.le_of_ble_eq_true rfl) dX5_digest_181 ⟨Nat.zero_le _, Nat.zero_le _⟩ (fun H locs hP hS => ?_)
        refine g_bind hs (fun q_20 hq_20 hs => ?_)
        refine gCS_l (As := [.long w1, .int q_19]) (rest := []) ⟨hx, hb, hml, hown, hts⟩ (cX5_mixed_c l D cy ad tL z0 hI v u w1 q_19 q_20 hq_20) (va_cwS 2 hts gX5_digest_X5_mixed rfl rfl rfl (by decide +kernel) ⟨Nat.le_of_ble_eq_true rfl, Nat.le_of_ble_eq_true rfl⟩) hK hP hS hl.1 rfl rfl (Nat.le_of_ble_eq_true rfl) dX5_digest_184 ⟨Nat.zero_le _, Nat.zero_le _⟩ (fun H locs hP hS => ?_)
        refine lv_lstore_n (lv' := [(1, .long q_20), (3, .ref (ad 9)), (4, .int w4)]) hx hb dX5_digest_187 rfl hl (by decide) rfl (fun ls hl => ?_)
        refine lv_iinc (v := w4 + 1) (lv' := [(4, .int (w4 + 1)), (1, .long q_20), (3, .ref (ad 9))]) hx hb dX5_digest_188 hl (k := 2) rfl rfl (by decide) rfl (fun ls hl => ?_)
        refine lv_goto (tgt := 171) hx hb dX5_digest_191 (by decide) ?_
        exact ih q_20 (w4 + 1) _ _ _ hP hS (lv_sub hl [1, 2, 0] rfl) hs
  have hL_96 : ∀ (k : Nat), ∀ (w1 : Int64) (w4 : Int32) (H : Heap) (locs : List Loc) (ls : Array Slot), va_P D vwCl (gW cy ad v u) H → va_S (gA z0) s.heap H locs → lv_has ls 5 [(1, .long w1), (3, .ref (ad 9)), (4, .int w4)] → sX5_digest_96 n k v w1 w4 = some r0 → W p l e (headSpec wsX5_digest ({ frames := 3, cells := 0, slots := 0, locals := 68 } : Room)).room s m ([.ref (ad 0)] : List Value).toArray below meth c H locs 0 0 (MQ below (gQl D cy ad tL z0 v u r0) ([.ref (ad 0)] : List Value).toArray s 0 0 (gA z0)) (F0 m 96 ls []) := by
    intro k
    induction k with
    | zero =>
      intro w1 w4 H locs ls hP hS hl hs
      exact g_none hs
    | succ k ih =>
      intro w1 w4 H locs ls hP hS hl hs
      rw [sX5_digest_96] at hs
      refine lv_iload hx hb dX5_digest_96 (lv_at hl 2 rfl) ?_
      refine lv_aload_n hx hb dX5_digest_98 rfl (lv_at hl 1 rfl) ?_
      refine va_get (D := D) (ci := 4) (v := .int (v 9 3)) (C := RX4) (T := TX4) (N := 6) hx hb hts iX4 hown hK.1 hP 9 (gW_4 kd9) rfl 3 (by decide) f59 (fun _ h9 => h9) rfl dX5_digest_99 ?_
      refine lv_icmp_ge (tgt := 168) hx hb dX5_digest_102 (by decide) (fun hc => ?_) (fun hc => ?_)
      · have hs := g_t hs hc
        refine lv_iconst (v := 0) hx hb dX5_digest_168 (by decide) ?_
        refine lv_istore (lv' := [(4, .int 0), (1, .long w1), (3, .ref (ad 9))]) hx hb dX5_digest_169 hl (by decide) rfl (fun ls hl => ?_)
        exact hL_171 n w1 0 _ _ _ hP hS (lv_sub hl [1, 2, 0] rfl) hs
      · have hs := g_f hs hc
        refine lv_iload hx hb dX5_digest_105 (lv_at hl 2 rfl) ?_
        refine lv_bipush (v := 12) hx hb dX5_digest_107 (by decide) ?_
        refine lv_icmp_ge (tgt := 168) hx hb dX5_digest_109 (by decide) (fun hc => ?_) (fun hc => ?_)
        · have hs := g_t hs hc
          refine lv_iconst (v := 0) hx hb dX5_digest_168 (by decide) ?_
          refine lv_istore (lv' := [(4, .int 0), (1, .long w1), (3, .ref (ad 9))]) hx hb dX5_digest_169 hl (by decide) rfl (fun ls hl => ?_)
          exact hL_171 n w1 0 _ _ _ hP hS (lv_sub hl [1, 2, 0] rfl) hs
        · have hs := g_f hs hc
          refine lv_lload_n hx hb dX5_digest_112 rfl (lv_at hl 0 rfl) ?_
          refine lv_aload_n hx hb dX5_digest_113 rfl (lv_at hl 1 rfl) ?_
          refine va_get (D := D) (ci := 4) (v := .ref (ad 10)) (C := RX4) (T := TX4) (N := 6) hx hb hts iX4 hown hK.1 hP 9 (gW_4 kd9) rfl 0 (by decide) f95 (fun _ h9 => h9) rfl dX5_digest_114 ?_
          refine lv_iload hx hb dX5_digest_117 (lv_at hl 2 rfl) ?_
          refine g_chk hs (fun hc hs => ?_)
          refine va_iald hx hb hK.1 hP 10 0 (gW_12 kd10) rfl hc dX5_digest_119 ?_
          refine g_bind hs (fun q_21 hq_21 hs => ?_)
          refine gCS_l (As := [.long w1, .int (v 10 w4.toNatClampNeg)]) (rest := []) ⟨hx, hb, hml, hown, hts⟩ (cX5_mixed_c l D cy ad tL z0 hI v u w1 (v 10 w4.toNatClampNeg) q_21 hq_21) (va_cwS 2 hts gX5_digest_X5_mixed rfl rfl rfl (by decide +kernel) ⟨Nat.le_of_ble_eq_true rfl, Nat.le_of_ble_eq_true rfl⟩) hK hP hS hl.1 rfl rfl (Nat.le_of_ble_eq_true rfl) dX5_digest_120 ⟨Nat.zero_le _, Nat.zero_le _⟩ (fun H locs hP hS => ?_)
          refine lv_lstore_n (lv' := [(1, .long q_21), (3, .ref (ad 9)), (4, .int w4)]) hx hb dX5_digest_123 rfl hl (by decide) rfl (fun ls hl => ?_)
          refine lv_lload_n hx hb dX5_digest_124 rfl (lv_at hl 0 rfl) ?_
          refine lv_aload_n hx hb dX5_digest_125 rfl (lv_at hl 1 rfl) ?_
          refine va_get (D := D) (ci := 4) (v := .ref (ad 11)) (C := RX4) (T := TX4) (N := 6) hx hb hts iX4 hown hK.1 hP 9 (gW_4 kd9) rfl 1 (by decide) f99 (fun _ h9 => h9) rfl dX5_digest_126 ?_
          refine lv_iload hx hb dX5_digest_129 (lv_at hl 2 rfl) ?_
          refine g_chk hs (fun hc hs => ?_)
          refine va_iald hx hb hK.1 hP 11 0 (gW_12 kd11) rfl hc dX5_digest_131 ?_
          refine g_bind hs (fun q_22 hq_22 hs => ?_)
          refine gCS_l (As := [.long q_21, .int (v 11 w4.toNatClampNeg)]) (rest := []) ⟨hx, hb, hml, hown, hts⟩ (cX5_mixed_c l D cy ad tL z0 hI v u q_21 (v 11 w4.toNatClampNeg) q_22 hq_22) (va_cwS 2 hts gX5_digest_X5_mixed rfl rfl rfl (by decide +kernel) ⟨Nat.le_of_ble_eq_true rfl, Nat.le_of_ble_eq_true rfl⟩) hK hP hS hl.1 rfl rfl (Nat.le_of_ble_eq_true rfl) dX5_digest_132 ⟨Nat.zero_le _, Nat.zero_le _⟩ (fun H locs hP hS => ?_)
          refine lv_lstore_n (lv' := [(1, .long q_22), (3, .ref (ad 9)), (4, .int w4)]) hx hb dX5_digest_135 rfl hl (by decide) rfl (fun ls hl => ?_)
          refine lv_lload_n hx hb dX5_digest_136 rfl (lv_at hl 0 rfl) ?_
          refine lv_aload_n hx hb dX5_digest_137 rfl (lv_at hl 1 rfl) ?_
          refine va_get (D := D) (ci := 4) (v := .ref (ad 12)) (C := RX4) (T := TX4) (N := 6) hx hb hts iX4 hown hK.1 hP 9 (gW_4 kd9) rfl 2 (by decide) f102 (fun _ h9 => h9) rfl dX5_digest_138 ?_
          refine lv_iload hx hb dX5_digest_141 (lv_at hl 2 rfl) ?_
          refine g_chk hs (fun hc hs => ?_)
          refine va_iald hx hb hK.1 hP 12 0 (gW_12 kd12) rfl hc dX5_digest_143 ?_
          refine g_bind hs (fun q_23 hq_23 hs => ?_)
          refine gCS_l (As := [.long q_22, .int (v 12 w4.toNatClampNeg)]) (rest := []) ⟨hx, hb, hml, hown, hts⟩ (cX5_mixed_c l D cy ad tL z0 hI v u q_22 (v 12 w4.toNatClampNeg) q_23 hq_23) (va_cwS 2 hts gX5_digest_X5_mixed rfl rfl rfl (by decide +kernel) ⟨Nat.le_of_ble_eq_true rfl, Nat.le_of_ble_eq_true rfl⟩) hK hP hS hl.1 rfl rfl (Nat.le_of_ble_eq_true rfl) dX5_digest_144 ⟨Nat.zero_le _, Nat.zero_le _⟩ (fun H locs hP hS => ?_)
          refine lv_lstore_n (lv' := [(1, .long q_23), (3, .ref (ad 9)), (4, .int w4)]) hx hb dX5_digest_147 rfl hl (by decide) rfl (fun ls hl => ?_)
          refine lv_lload_n hx hb dX5_digest_148 rfl (lv_at hl 0 rfl) ?_
          refine lv_aload_n hx hb dX5_digest_149 rfl (lv_at hl 1 rfl) ?_
          refine va_get (D := D) (ci := 4) (v := .int (v 9 5)) (C := RX4) (T := TX4) (N := 6) hx hb hts iX4 hown hK.1 hP 9 (gW_4 kd9) rfl 5 (by decide) f105 (fun _ h9 => h9) rfl dX5_digest_150 ?_
          refine lv_iload hx hb dX5_digest_153 (lv_at hl 2 rfl) ?_
          refine lv_ishr hx hb dX5_digest_155 ?_
          refine lv_iconst (v := 1) hx hb dX5_digest_156 (by decide) ?_
          refine lv_iand hx hb dX5_digest_157 ?_
          refine g_bind hs (fun q_24 hq_24 hs => ?_)
          refine gCS_l (As := [.long q_23, .int (((v 9 5) >>> (w4 &&& 31)) &&& 1)]) (rest := []) ⟨hx, hb, hml, hown, hts⟩ (cX5_mixed_c l D cy ad tL z0 hI v u q_23 (((v 9 5) >>> (w4 &&& 31)) &&& 1) q_24 hq_24) (va_cwS 2 hts gX5_digest_X5_mixed rfl rfl rfl (by decide +kernel) ⟨Nat.le_of_ble_eq_true rfl, Nat.le_of_ble_eq_true rfl⟩) hK hP hS hl.1 rfl rfl (Nat.le_of_ble_eq_true rfl) dX5_digest_158 ⟨Nat.zero_le _, Nat.zero_le _⟩ (fun H locs hP hS => ?_)
          refine lv_lstore_n (lv' := [(1, .long q_24), (3, .ref (ad 9)), (4, .int w4)]) hx hb dX5_digest_161 rfl hl (by decide) rfl (fun ls hl => ?_)
          refine lv_iinc (v := w4 + 1) (lv' := [(4, .int (w4 + 1)), (1, .long q_24), (3, .ref (ad 9))]) hx hb dX5_digest_162 hl (k := 2) rfl rfl (by decide) rfl (fun ls hl => ?_)
          refine lv_goto (tgt := 96) hx hb dX5_digest_165 (by decide) ?_
          exact ih q_24 (w4 + 1) _ _ _ hP hS (lv_sub hl [1, 2, 0] rfl) hs
  unfold sX5_digest at hs
  refine lv_ldc2 hx hb hown k206 dX5_digest_0 ?_
  refine lv_lstore_n (lv' := [(1, .long 8144), (0, .ref (ad 0))]) hx hb dX5_digest_3 rfl hl (by decide) rfl (fun ls hl => ?_)
  refine lv_lload_n hx hb dX5_digest_4 rfl (lv_at hl 0 rfl) ?_
  refine lv_aload_n hx hb dX5_digest_5 rfl (lv_at hl 1 rfl) ?_
  refine g_bind hs (fun q_1 hq_1 hs => ?_)
  refine gCV_i (As := []) (rest := [.long 8144]) ⟨hx, hb, hml, hown, hts⟩ (cX5_objects_c l D cy ad tL z0 hI v u q_1 hq_1) (cwV 0 hts gX5_digest_X5_objects rfl rfl rfl (by decide +kernel) ⟨Nat.le_of_ble_eq_true rfl, Nat.le_of_ble_eq_true rfl⟩) hK hP hS (va_recv hK.1 hP (ci := 5) (q0 := 0) rfl (gW_5 kd0)) hl.1 rfl rfl (Nat.le_of_ble_eq_true rfl) dX5_digest_6 ⟨Nat.zero_le _, Nat.zero_le _⟩ (fun H locs hP hS => ?_)
  refine g_bind hs (fun q_2 hq_2 hs => ?_)
  refine gCS_l (As := [.long 8144, .int q_1]) (rest := []) ⟨hx, hb, hml, hown, hts⟩ (cX5_mixed_c l D cy ad tL z0 hI v u 8144 q_1 q_2 hq_2) (va_cwS 2 hts gX5_digest_X5_mixed rfl rfl rfl (by decide +kernel) ⟨Nat.le_of_ble_eq_true rfl, Nat.le_of_ble_eq_true rfl⟩) hK hP hS hl.1 rfl rfl (Nat.le_of_ble_eq_true rfl) dX5_digest_9 ⟨Nat.zero_le _, Nat.zero_le _⟩ (fun H locs hP hS => ?_)
  refine lv_lstore_n (lv' := [(1, .long q_2), (0, .ref (ad 0))]) hx hb dX5_digest_12 rfl hl (by decide) rfl (fun ls hl => ?_)
  refine lv_lload_n hx hb dX5_digest_13 rfl (lv_at hl 0 rfl) ?_
  refine lv_aload_n hx hb dX5_digest_14 rfl (lv_at hl 1 rfl) ?_
  refine g_bind hs (fun q_3 hq_3 hs => ?_)
  refine gCV_i (As := []) (rest := [.long q_2]) ⟨hx, hb, hml, hown, hts⟩ (cX5_room_c l D cy ad tL z0 hI v u q_3 hq_3) (cwV 0 hts gX5_digest_X5_room rfl rfl rfl (by decide +kernel) ⟨Nat.le_of_ble_eq_true rfl, Nat.le_of_ble_eq_true rfl⟩) hK hP hS (va_recv hK.1 hP (ci := 5) (q0 := 0) rfl (gW_5 kd0)) hl.1 rfl rfl (Nat.le_of_ble_eq_true rfl) dX5_digest_15 ⟨Nat.zero_le _, Nat.zero_le _⟩ (fun H locs hP hS => ?_)
  refine g_bind hs (fun q_4 hq_4 hs => ?_)
  refine gCS_l (As := [.long q_2, .int q_3]) (rest := []) ⟨hx, hb, hml, hown, hts⟩ (cX5_mixed_c l D cy ad tL z0 hI v u q_2 q_3 q_4 hq_4) (va_cwS 2 hts gX5_digest_X5_mixed rfl rfl rfl (by decide +kernel) ⟨Nat.le_of_ble_eq_true rfl, Nat.le_of_ble_eq_true rfl⟩) hK hP hS hl.1 rfl rfl (Nat.le_of_ble_eq_true rfl) dX5_digest_18 ⟨Nat.zero_le _, Nat.zero_le _⟩ (fun H locs hP hS => ?_)
  refine lv_lstore_n (lv' := [(1, .long q_4), (0, .ref (ad 0))]) hx hb dX5_digest_21 rfl hl (by decide) rfl (fun ls hl => ?_)
  refine lv_lload_n hx hb dX5_digest_22 rfl (lv_at hl 0 rfl) ?_
  refine lv_aload_n hx hb dX5_digest_23 rfl (lv_at hl 1 rfl) ?_
  refine g_bind hs (fun q_5 hq_5 hs => ?_)
  refine gCV_i (As := []) (rest := [.long q_4]) ⟨hx, hb, hml, hown, hts⟩ (cX5_visible_c l D cy ad tL z0 hI n v u q_5 hq_5) (cwV 0 hts gX5_digest_X5_visible rfl rfl rfl (by decide +kernel) ⟨Nat.le_of_ble_eq_true rfl, Nat.le_of_ble_eq_true rfl⟩) hK hP hS (va_recv hK.1 hP (ci := 5) (q0 := 0) rfl (gW_5 kd0)) hl.1 rfl rfl (Nat.le_of_ble_eq_true rfl) dX5_digest_24 ⟨Nat.zero_le _, Nat.zero_le _⟩ (fun H locs hP hS => ?_)
  refine g_bind hs (fun q_6 hq_6 hs => ?_)
  refine gCS_l (As := [.long q_4, .int q_5]) (rest := []) ⟨hx, hb, hml, hown, hts⟩ (cX5_mixed_c l D cy ad tL z0 hI v u q_4 q_5 q_6 hq_6) (va_cwS 2 hts gX5_digest_X5_mixed rfl rfl rfl (by decide +kernel) ⟨Nat.le_of_ble_eq_true rfl, Nat.le_of_ble_eq_true rfl⟩) hK hP hS hl.1 rfl rfl (Nat.le_of_ble_eq_true rfl) dX5_digest_27 ⟨Nat.zero_le _, Nat.zero_le _⟩ (fun H locs hP hS => ?_)
  refine lv_lstore_n (lv' := [(1, .long q_6), (0, .ref (ad 0))]) hx hb dX5_digest_30 rfl hl (by decide) rfl (fun ls hl => ?_)
  refine lv_lload_n hx hb dX5_digest_31 rfl (lv_at hl 0 rfl) ?_
  refine lv_aload_n hx hb dX5_digest_32 rfl (lv_at hl 1 rfl) ?_
  refine g_bind hs (fun q_7 hq_7 hs => ?_)
  refine gCV_i (As := []) (rest := [.long q_6]) ⟨hx, hb, hml, hown, hts⟩ (cX5_candidates_c l D cy ad tL z0 hI v u q_7 hq_7) (cwV 0 hts gX5_digest_X5_candidates rfl rfl rfl (by decide +kernel) ⟨Nat.le_of_ble_eq_true rfl, Nat.le_of_ble_eq_true rfl⟩) hK hP hS (va_recv hK.1 hP (ci := 5) (q0 := 0) rfl (gW_5 kd0)) hl.1 rfl rfl (Nat.le_of_ble_eq_true rfl) dX5_digest_33 ⟨Nat.zero_le _, Nat.zero_le _⟩ (fun H locs hP hS => ?_)
  refine g_bind hs (fun q_8 hq_8 hs => ?_)
  refine gCS_l (As := [.long q_6, .int q_7]) (rest := []) ⟨hx, hb, hml, hown, hts⟩ (cX5_mixed_c l D cy ad tL z0 hI v u q_6 q_7 q_8 hq_8) (va_cwS 2 hts gX5_digest_X5_mixed rfl rfl rfl (by decide +kernel) ⟨Nat.le_of_ble_eq_true rfl, Nat.le_of_ble_eq_true rfl⟩) hK hP hS hl.1 rfl rfl (Nat.le_of_ble_eq_true rfl) dX5_digest_36 ⟨Nat.zero_le _, Nat.zero_le _⟩ (fun H locs hP hS => ?_)
  refine lv_lstore_n (lv' := [(1, .long q_8), (0, .ref (ad 0))]) hx hb dX5_digest_39 rfl hl (by decide) rfl (fun ls hl => ?_)
  refine lv_lload_n hx hb dX5_digest_40 rfl (lv_at hl 0 rfl) ?_
  refine lv_aload_n hx hb dX5_digest_41 rfl (lv_at hl 1 rfl) ?_
  refine g_bind hs (fun q_9 hq_9 hs => ?_)
  refine gCV_i (As := []) (rest := [.long q_8]) ⟨hx, hb, hml, hown, hts⟩ (cX5_it_c l D cy ad tL z0 hI v u q_9 hq_9) (cwV 0 hts gX5_digest_X5_it rfl rfl rfl (by decide +kernel) ⟨Nat.le_of_ble_eq_true rfl, Nat.le_of_ble_eq_true rfl⟩) hK hP hS (va_recv hK.1 hP (ci := 5) (q0 := 0) rfl (gW_5 kd0)) hl.1 rfl rfl (Nat.le_of_ble_eq_true rfl) dX5_digest_42 ⟨Nat.zero_le _, Nat.zero_le _⟩ (fun H locs hP hS => ?_)
  refine g_bind hs (fun q_10 hq_10 hs => ?_)
  refine gCS_l (As := [.long q_8, .int q_9]) (rest := []) ⟨hx, hb, hml, hown, hts⟩ (cX5_mixed_c l D cy ad tL z0 hI v u q_8 q_9 q_10 hq_10) (va_cwS 2 hts gX5_digest_X5_mixed rfl rfl rfl (by decide +kernel) ⟨Nat.le_of_ble_eq_true rfl, Nat.le_of_ble_eq_true rfl⟩) hK hP hS hl.1 rfl rfl (Nat.le_of_ble_eq_true rfl) dX5_digest_45 ⟨Nat.zero_le _, Nat.zero_le _⟩ (fun H locs hP hS => ?_)
  refine lv_lstore_n (lv' := [(1, .long q_10), (0, .ref (ad 0))]) hx hb dX5_digest_48 rfl hl (by decide) rfl (fun ls hl => ?_)
  refine lv_lload_n hx hb dX5_digest_49 rfl (lv_at hl 0 rfl) ?_
  refine lv_aload_n hx hb dX5_digest_50 rfl (lv_at hl 1 rfl) ?_
  refine g_bind hs (fun q_11 hq_11 hs => ?_)
  refine gCV_i (As := []) (rest := [.long q_10]) ⟨hx, hb, hml, hown, hts⟩ (cX5_them_c l D cy ad tL z0 hI v u q_11 hq_11) (cwV 0 hts gX5_digest_X5_them rfl rfl rfl (by decide +kernel) ⟨Nat.le_of_ble_eq_true rfl, Nat.le_of_ble_eq_true rfl⟩) hK hP hS (va_recv hK.1 hP (ci := 5) (q0 := 0) rfl (gW_5 kd0)) hl.1 rfl rfl (Nat.le_of_ble_eq_true rfl) dX5_digest_51 ⟨Nat.zero_le _, Nat.zero_le _⟩ (fun H locs hP hS => ?_)
  refine g_bind hs (fun q_12 hq_12 hs => ?_)
  refine gCS_l (As := [.long q_10, .int q_11]) (rest := []) ⟨hx, hb, hml, hown, hts⟩ (cX5_mixed_c l D cy ad tL z0 hI v u q_10 q_11 q_12 hq_12) (va_cwS 2 hts gX5_digest_X5_mixed rfl rfl rfl (by decide +kernel) ⟨Nat.le_of_ble_eq_true rfl, Nat.le_of_ble_eq_true rfl⟩) hK hP hS hl.1 rfl rfl (Nat.le_of_ble_eq_true rfl) dX5_digest_54 ⟨Nat.zero_le _, Nat.zero_le _⟩ (fun H locs hP hS => ?_)
  refine lv_lstore_n (lv' := [(1, .long q_12), (0, .ref (ad 0))]) hx hb dX5_digest_57 rfl hl (by decide) rfl (fun ls hl => ?_)
  refine lv_lload_n hx hb dX5_digest_58 rfl (lv_at hl 0 rfl) ?_
  refine lv_aload_n hx hb dX5_digest_59 rfl (lv_at hl 1 rfl) ?_
  refine g_bind hs (fun q_13 hq_13 hs => ?_)
  refine gCV_i (As := []) (rest := [.long q_12]) ⟨hx, hb, hml, hown, hts⟩ (cX5_executed_c l D cy ad tL z0 hI v u q_13 hq_13) (cwV 0 hts gX5_digest_X5_executed rfl rfl rfl (by decide +kernel) ⟨Nat.le_of_ble_eq_true rfl, Nat.le_of_ble_eq_true rfl⟩) hK hP hS (va_recv hK.1 hP (ci := 5) (q0 := 0) rfl (gW_5 kd0)) hl.1 rfl rfl (Nat.le_of_ble_eq_true rfl) dX5_digest_60 ⟨Nat.zero_le _, Nat.zero_le _⟩ (fun H locs hP hS => ?_)
  refine g_bind hs (fun q_14 hq_14 hs => ?_)
  refine gCS_l (As := [.long q_12, .int q_13]) (rest := []) ⟨hx, hb, hml, hown, hts⟩ (cX5_mixed_c l D cy ad tL z0 hI v u q_12 q_13 q_14 hq_14) (va_cwS 2 hts gX5_digest_X5_mixed rfl rfl rfl (by decide +kernel) ⟨Nat.le_of_ble_eq_true rfl, Nat.le_of_ble_eq_true rfl⟩) hK hP hS hl.1 rfl rfl (Nat.le_of_ble_eq_true rfl) dX5_digest_63 ⟨Nat.zero_le _, Nat.zero_le _⟩ (fun H locs hP hS => ?_)
  refine lv_lstore_n (lv' := [(1, .long q_14), (0, .ref (ad 0))]) hx hb dX5_digest_66 rfl hl (by decide) rfl (fun ls hl => ?_)
  refine lv_lload_n hx hb dX5_digest_67 rfl (lv_at hl 0 rfl) ?_
  refine lv_aload_n hx hb dX5_digest_68 rfl (lv_at hl 1 rfl) ?_
  refine g_bind hs (fun q_15 hq_15 hs => ?_)
  refine gCV_i (As := []) (rest := [.long q_14]) ⟨hx, hb, hml, hown, hts⟩ (cX5_failed_c l D cy ad tL z0 hI v u q_15 hq_15) (cwV 0 hts gX5_digest_X5_failed rfl rfl rfl (by decide +kernel) ⟨Nat.le_of_ble_eq_true rfl, Nat.le_of_ble_eq_true rfl⟩) hK hP hS (va_recv hK.1 hP (ci := 5) (q0 := 0) rfl (gW_5 kd0)) hl.1 rfl rfl (Nat.le_of_ble_eq_true rfl) dX5_digest_69 ⟨Nat.zero_le _, Nat.zero_le _⟩ (fun H locs hP hS => ?_)
  refine g_bind hs (fun q_16 hq_16 hs => ?_)
  refine gCS_l (As := [.long q_14, .int q_15]) (rest := []) ⟨hx, hb, hml, hown, hts⟩ (cX5_mixed_c l D cy ad tL z0 hI v u q_14 q_15 q_16 hq_16) (va_cwS 2 hts gX5_digest_X5_mixed rfl rfl rfl (by decide +kernel) ⟨Nat.le_of_ble_eq_true rfl, Nat.le_of_ble_eq_true rfl⟩) hK hP hS hl.1 rfl rfl (Nat.le_of_ble_eq_true rfl) dX5_digest_72 ⟨Nat.zero_le _, Nat.zero_le _⟩ (fun H locs hP hS => ?_)
  refine lv_lstore_n (lv' := [(1, .long q_16), (0, .ref (ad 0))]) hx hb dX5_digest_75 rfl hl (by decide) rfl (fun ls hl => ?_)
  refine lv_lload_n hx hb dX5_digest_76 rfl (lv_at hl 0 rfl) ?_
  refine lv_aload_n hx hb dX5_digest_77 rfl (lv_at hl 1 rfl) ?_
  refine g_bind hs (fun q_17 hq_17 hs => ?_)
  refine gCV_i (As := []) (rest := [.long q_16]) ⟨hx, hb, hml, hown, hts⟩ (cX5_asked_c l D cy ad tL z0 hI v u q_17 hq_17) (cwV 0 hts gX5_digest_X5_asked rfl rfl rfl (by decide +kernel) ⟨Nat.le_of_ble_eq_true rfl, Nat.le_of_ble_eq_true rfl⟩) hK hP hS (va_recv hK.1 hP (ci := 5) (q0 := 0) rfl (gW_5 kd0)) hl.1 rfl rfl (Nat.le_of_ble_eq_true rfl) dX5_digest_78 ⟨Nat.zero_le _, Nat.zero_le _⟩ (fun H locs hP hS => ?_)
  refine g_bind hs (fun q_18 hq_18 hs => ?_)
  refine gCS_l (As := [.long q_16, .int q_17]) (rest := []) ⟨hx, hb, hml, hown, hts⟩ (cX5_mixed_c l D cy ad tL z0 hI v u q_16 q_17 q_18 hq_18) (va_cwS 2 hts gX5_digest_X5_mixed rfl rfl rfl (by decide +kernel) ⟨Nat.le_of_ble_eq_true rfl, Nat.le_of_ble_eq_true rfl⟩) hK hP hS hl.1 rfl rfl (Nat.le_of_ble_eq_true rfl) dX5_digest_81 ⟨Nat.zero_le _, Nat.zero_le _⟩ (fun H locs hP hS => ?_)
  refine lv_lstore_n (lv' := [(1, .long q_18), (0, .ref (ad 0))]) hx hb dX5_digest_84 rfl hl (by decide) rfl (fun ls hl => ?_)
  refine lv_aload_n hx hb dX5_digest_85 rfl (lv_at hl 1 rfl) ?_
  refine va_get (D := D) (ci := 5) (v := .ref (ad 8)) (C := RX5) (T := TX5) (N := 7) hx hb hts iX5 hown hK.1 hP 0 (gW_5 kd0) rfl 2 (by decide) f26 (fun _ h9 => h9) rfl dX5_digest_86 ?_
  refine va_get (D := D) (ci := 3) (v := .ref (ad 9)) (C := RX3) (T := TX3) (N := 9) hx hb hts iX3 hown hK.1 hP 8 (gW_3 kd8) rfl 0 (by decide) f37 (fun _ h9 => h9) rfl dX5_digest_89 ?_
  refine lv_astore_n (lv' := [(3, .ref (ad 9)), (1, .long q_18), (0, .ref (ad 0))]) hx hb dX5_digest_92 rfl hl (by decide) rfl (fun ls hl => ?_)
  refine lv_iconst (v := 0) hx hb dX5_digest_93 (by decide) ?_
  refine lv_istore (lv' := [(4, .int 0), (3, .ref (ad 9)), (1, .long q_18), (0, .ref (ad 0))]) hx hb dX5_digest_94 hl (by decide) rfl (fun ls hl => ?_)
  exact hL_96 n q_18 0 _ _ _ hP hS (lv_sub hl [2, 1, 0] rfl) hs
