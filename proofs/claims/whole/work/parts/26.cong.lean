set_option maxHeartbeats 4000000 in
set_option maxRecDepth 100000 in
theorem cX6_appendWord_c (l : Launch) (D : va_G) (cy : Nat → ClassId) (ad : Nat → Nat) (tL z0 : Nat) (hI : gI z0 ad) (n : Nat) (v : gV) (u : Int64) (x1 : Int32) (r0 : Int32) (v1 : gV) (hs : sX6_appendWord n v x1 = some (r0, v1)) : Met l yX6_appendWord wsX6_appendWord ({ frames := 1, cells := 0, slots := 0, locals := 22 } : Room) (gPc D cy ad tL z0 v u [.ref (ad 81), .int x1]) (gQi D cy ad tL z0 v1 u r0) 0 0 (gA z0) := by
  refine Met.ofW (cc := cX6_appendWord) (maxL := 4) (ret := (some .int)) (by decide) rfl ?_
  intro p e s m args below meth c s₁ B hml hv
  obtain ⟨rfl, hB0⟩ := hv
  have hP : va_P D vwCl (gW cy ad v u) s.heap := hB0.1
  have hK : gK D cy tL z0 s s.heap := hB0.2
  have hx := B.exec
  have hb := B.bytes
  have hr := B.returns
  have hts := atoms_spec (ws := wsX6_appendWord) B.pre
  have hown : s.vm.findClass RX6 = some m.cls := findClass_of_methodNamed B.named
  have hlocks := B.notSynchronized
  have hS : va_S (gA z0) s.heap s.heap [] := va_S.rf
  have hl := lv_entry ([.ref (ad 81), .int x1]) (n := 4) (Nat.le_of_ble_eq_true rfl)
  rw [lg_entry_eq]
  generalize (lg_sl ([.ref (ad 81), .int x1]) ++ List.replicate (4 - (lg_sl ([.ref (ad 81), .int x1])).length) Slot.unset).toArray = ls at hl ⊢
  have hl : lv_has ls 4 [(0, .ref (ad 81)), (1, .int x1)] := hl
  have iX6 := (show ∀ w ∈ u_ws RX6 TX6 17, w ∈ wsX6_appendWord by decide +kernel)
  have f31 := hts (.fieldLink RX6 31 "AdventureParserModel" "thrown" "I") (by decide +kernel)
  have f91 := hts (.fieldLink RX6 91 "AdventureParserModel" "length" "I") (by decide +kernel)
  have f13 := hts (.fieldLink RX6 13 "AdventureParserModel" "begins" "[I") (by decide +kernel)
  have f25 := hts (.fieldLink RX6 25 "AdventureParserModel" "text" "[I") (by decide +kernel)
  have f7 := hts (.fieldLink RX6 7 "AdventureParserModel" "letters" "[I") (by decide +kernel)
  clear hB0
  have hL_113 : ∀ (k : Nat), ∀ (v : gV) (w1 : Int32) (w3 : Int32) (H : Heap) (locs : List Loc) (ls : Array Slot), va_P D vwCl (gW cy ad v u) H → va_S (gA z0) s.heap H locs → lv_has ls 4 [(0, .ref (ad 81)), (1, .int w1), (3, .int w3)] → sX6_appendWord_113 n k v w1 w3 = some (r0, v1) → W p l e (headSpec wsX6_appendWord ({ frames := 1, cells := 0, slots := 0, locals := 22 } : Room)).room s m ([.ref (ad 81), .int x1] : List Value).toArray below meth c H locs 0 0 (MQ below (gQi D cy ad tL z0 v1 u r0) ([.ref (ad 81), .int x1] : List Value).toArray s 0 0 (gA z0)) (F0 m 113 ls []) := by
    intro k
    induction k with
    | zero =>
      intro v w1 w3 H locs ls hP hS hl hs
      exact g_none hs
    | succ k ih =>
      intro v w1 w3 H locs ls hP hS hl hs
      rw [sX6_appendWord_113] at hs
      refine lv_iload_n hx hb dX6_appendWord_113 rfl (lv_at hl 2 rfl) ?_
      refine lv_aload_n hx hb dX6_appendWord_114 rfl (lv_at hl 0 rfl) ?_
      refine va_get (D := D) (ci := 6) (v := .ref (ad 83)) (C := RX6) (T := TX6) (N := 17) hx hb hts iX6 hown hK.1 hP 81 (gW_6 kd81) rfl 1 (by decide) f13 (fun _ h9 => h9) rfl dX6_appendWord_115 ?_
      refine lv_iload_n hx hb dX6_appendWord_118 rfl (lv_at hl 1 rfl) ?_
      refine lv_iconst (v := 1) hx hb dX6_appendWord_119 (by decide) ?_
      refine lv_iadd hx hb dX6_appendWord_120 ?_
      refine g_chk hs (fun hc hs => ?_)
      refine va_iald hx hb hK.1 hP 83 0 (gW_15 kd83) rfl hc dX6_appendWord_121 ?_
      refine lv_icmp_ge (tgt := 156) hx hb dX6_appendWord_122 (by decide) (fun hc => ?_) (fun hc => ?_)
      · have hs := g_t hs hc
        refine lv_aload_n hx hb dX6_appendWord_156 rfl (lv_at hl 0 rfl) ?_
        refine va_get (D := D) (ci := 6) (v := .int (v 81 7)) (C := RX6) (T := TX6) (N := 17) hx hb hts iX6 hown hK.1 hP 81 (gW_6 kd81) rfl 7 (by decide) f91 (fun _ h9 => h9) rfl dX6_appendWord_157 ?_
        exact gRet_i hx hb hr hlocks hK hP hS (g_some2 hs) dX6_appendWord_160
      · have hs := g_f hs hc
        refine lv_aload_n hx hb dX6_appendWord_125 rfl (lv_at hl 0 rfl) ?_
        refine va_get (D := D) (ci := 6) (v := .ref (ad 87)) (C := RX6) (T := TX6) (N := 17) hx hb hts iX6 hown hK.1 hP 81 (gW_6 kd81) rfl 6 (by decide) f25 (fun _ h9 => h9) rfl dX6_appendWord_126 ?_
        refine lv_aload_n hx hb dX6_appendWord_129 rfl (lv_at hl 0 rfl) ?_
        refine va_get (D := D) (ci := 6) (v := .int (v 81 7)) (C := RX6) (T := TX6) (N := 17) hx hb hts iX6 hown hK.1 hP 81 (gW_6 kd81) rfl 7 (by decide) f91 (fun _ h9 => h9) rfl dX6_appendWord_130 ?_
        refine lv_aload_n hx hb dX6_appendWord_133 rfl (lv_at hl 0 rfl) ?_
        refine va_get (D := D) (ci := 6) (v := .ref (ad 82)) (C := RX6) (T := TX6) (N := 17) hx hb hts iX6 hown hK.1 hP 81 (gW_6 kd81) rfl 0 (by decide) f7 (fun _ h9 => h9) rfl dX6_appendWord_134 ?_
        refine lv_iload_n hx hb dX6_appendWord_137 rfl (lv_at hl 2 rfl) ?_
        refine g_chk hs (fun hc hs => ?_)
        refine va_iald hx hb hK.1 hP 82 0 (gW_14 kd82) rfl hc dX6_appendWord_138 ?_
        refine g_chk hs (fun hc hs => ?_)
        refine va_iast hx hb hK.1 hP (gD hI) hS 87 0 (gW_18 kd87) rfl hc dX6_appendWord_139 (fun H locs hP _ hS => ?_)
        refine g_let hs (fun v_4 ev_4 hs => ?_)
        have hP : va_P D vwCl (gW cy ad v_4 u) H := gPset ((gS_18 kd87 (v 81 7).toNatClampNeg (v 82 w3.toNatClampNeg)).trans (congrArg (fun z => gW cy ad z u) ev_4.symm)) hP
        refine lv_aload_n hx hb dX6_appendWord_140 rfl (lv_at hl 0 rfl) ?_
        refine lv_dup hx hb dX6_appendWord_141 rfl ?_
        refine va_get (D := D) (ci := 6) (v := .int (v_4 81 7)) (C := RX6) (T := TX6) (N := 17) hx hb hts iX6 hown hK.1 hP 81 (gW_6 kd81) rfl 7 (by decide) f91 (fun _ h9 => h9) rfl dX6_appendWord_142 ?_
        refine lv_iconst (v := 1) hx hb dX6_appendWord_145 (by decide) ?_
        refine lv_iadd hx hb dX6_appendWord_146 ?_
        refine va_put (D := D) (ci := 6) (v := .int ((v_4 81 7) + 1)) (ty := .int) (C := RX6) (T := TX6) (N := 17) hx hb hts iX6 tyX6 tyX6_ok nmX6 hown hK.1 hP (gD hI) hS 81 (gW_6 kd81) rfl 7 (by decide) f91 (fun _ h9 => h9) rfl (by decide +kernel) rfl rfl (Nat.le_of_ble_eq_true rfl) dX6_appendWord_147 (fun H locs hP _ hS => ?_)
        refine g_let hs (fun v_5 ev_5 hs => ?_)
        have hP : va_P D vwCl (gW cy ad v_5 u) H := gPset ((gS_6_7 kd81 ((v_4 81 7) + 1)).trans (congrArg (fun z => gW cy ad z u) ev_5.symm)) hP
        refine lv_iinc (v := w3 + 1) (lv' := [(3, .int (w3 + 1)), (0, .ref (ad 81)), (1, .int w1)]) hx hb dX6_appendWord_150 hl (k := 2) rfl rfl (by decide) rfl (fun ls hl => ?_)
        refine lv_goto (tgt := 113) hx hb dX6_appendWord_153 (by decide) ?_
        exact ih v_5 w1 (w3 + 1) _ _ _ hP hS (lv_sub hl [1, 2, 0] rfl) hs
  have hJ_63 : ∀ (v : gV) (w1 : Int32) (w2 : Int32) (t0 : Int32) (t1 : Int32) (H : Heap) (locs : List Loc) (ls : Array Slot), va_P D vwCl (gW cy ad v u) H → va_S (gA z0) s.heap H locs → lv_has ls 4 [(0, .ref (ad 81)), (1, .int w1), (2, .int w2)] → sX6_appendWord_63 n v w1 w2 t0 t1 = some (r0, v1) → W p l e (headSpec wsX6_appendWord ({ frames := 1, cells := 0, slots := 0, locals := 22 } : Room)).room s m ([.ref (ad 81), .int x1] : List Value).toArray below meth c H locs 0 0 (MQ below (gQi D cy ad tL z0 v1 u r0) ([.ref (ad 81), .int x1] : List Value).toArray s 0 0 (gA z0)) (F0 m 63 ls [.int t1, .int t0]) := by
    intro v w1 w2 t0 t1 H locs ls hP hS hl hs
    unfold sX6_appendWord_63 at hs
    refine lv_iadd hx hb dX6_appendWord_63 ?_
    refine lv_aload_n hx hb dX6_appendWord_64 rfl (lv_at hl 0 rfl) ?_
    refine lv_iload_n hx hb dX6_appendWord_65 rfl (lv_at hl 1 rfl) ?_
    refine g_bind hs (fun q_3 hq_3 hs => ?_)
    refine gCV_i (As := [.int w1]) (rest := [.int (t0 + t1)]) ⟨hx, hb, hml, hown, hts⟩ (cX6_lengthOf_c l D cy ad tL z0 hI v u w1 q_3 hq_3) (cwV 1 hts gX6_appendWord_X6_lengthOf rfl rfl rfl (by decide +kernel) ⟨Nat.le_of_ble_eq_true rfl, Nat.le_of_ble_eq_true rfl⟩) hK hP hS (va_recv hK.1 hP (ci := 6) (q0 := 81) rfl (gW_6 kd81)) hl.1 rfl rfl (Nat.le_of_ble_eq_true rfl) dX6_appendWord_66 ⟨Nat.zero_le _, Nat.zero_le _⟩ (fun H locs hP hS => ?_)
    refine lv_iadd hx hb dX6_appendWord_69 ?_
    refine lv_bipush (v := 60) hx hb dX6_appendWord_70 (by decide) ?_
    refine lv_icmp_le (tgt := 81) hx hb dX6_appendWord_72 (by decide) (fun hc => ?_) (fun hc => ?_)
    · have hs := g_t hs hc
      refine lv_iload_n hx hb dX6_appendWord_81 rfl (lv_at hl 2 rfl) ?_
      refine lv_if_eq (tgt := 106) hx hb dX6_appendWord_82 (by decide) (fun hc => ?_) (fun hc => ?_)
      · have hs := g_t hs hc
        refine lv_aload_n hx hb dX6_appendWord_106 rfl (lv_at hl 0 rfl) ?_
        refine va_get (D := D) (ci := 6) (v := .ref (ad 83)) (C := RX6) (T := TX6) (N := 17) hx hb hts iX6 hown hK.1 hP 81 (gW_6 kd81) rfl 1 (by decide) f13 (fun _ h9 => h9) rfl dX6_appendWord_107 ?_
        refine lv_iload_n hx hb dX6_appendWord_110 rfl (lv_at hl 1 rfl) ?_
        refine g_chk hs (fun hc hs => ?_)
        refine va_iald hx hb hK.1 hP 83 0 (gW_15 kd83) rfl hc dX6_appendWord_111 ?_
        refine lv_istore_n (lv' := [(3, .int (v 83 w1.toNatClampNeg)), (0, .ref (ad 81)), (1, .int w1), (2, .int w2)]) hx hb dX6_appendWord_112 rfl hl (by decide) rfl (fun ls hl => ?_)
        exact hL_113 n v w1 (v 83 w1.toNatClampNeg) _ _ _ hP hS (lv_sub hl [1, 2, 0] rfl) hs
      · have hs := g_f hs hc
        refine lv_aload_n hx hb dX6_appendWord_85 rfl (lv_at hl 0 rfl) ?_
        refine va_get (D := D) (ci := 6) (v := .ref (ad 87)) (C := RX6) (T := TX6) (N := 17) hx hb hts iX6 hown hK.1 hP 81 (gW_6 kd81) rfl 6 (by decide) f25 (fun _ h9 => h9) rfl dX6_appendWord_86 ?_
        refine lv_aload_n hx hb dX6_appendWord_89 rfl (lv_at hl 0 rfl) ?_
        refine va_get (D := D) (ci := 6) (v := .int (v 81 7)) (C := RX6) (T := TX6) (N := 17) hx hb hts iX6 hown hK.1 hP 81 (gW_6 kd81) rfl 7 (by decide) f91 (fun _ h9 => h9) rfl dX6_appendWord_90 ?_
        refine lv_bipush (v := 32) hx hb dX6_appendWord_93 (by decide) ?_
        refine g_chk hs (fun hc hs => ?_)
        refine va_iast hx hb hK.1 hP (gD hI) hS 87 0 (gW_18 kd87) rfl hc dX6_appendWord_95 (fun H locs hP _ hS => ?_)
        refine g_let hs (fun v_6 ev_6 hs => ?_)
        have hP : va_P D vwCl (gW cy ad v_6 u) H := gPset ((gS_18 kd87 (v 81 7).toNatClampNeg 32).trans (congrArg (fun z => gW cy ad z u) ev_6.symm)) hP
        refine lv_aload_n hx hb dX6_appendWord_96 rfl (lv_at hl 0 rfl) ?_
        refine lv_dup hx hb dX6_appendWord_97 rfl ?_
        refine va_get (D := D) (ci := 6) (v := .int (v_6 81 7)) (C := RX6) (T := TX6) (N := 17) hx hb hts iX6 hown hK.1 hP 81 (gW_6 kd81) rfl 7 (by decide) f91 (fun _ h9 => h9) rfl dX6_appendWord_98 ?_
        refine lv_iconst (v := 1) hx hb dX6_appendWord_101 (by decide) ?_
        refine lv_iadd hx hb dX6_appendWord_102 ?_
        refine va_put (D := D) (ci := 6) (v := .int ((v_6 81 7) + 1)) (ty := .int) (C := RX6) (T := TX6) (N := 17) hx hb hts iX6 tyX6 tyX6_ok nmX6 hown hK.1 hP (gD hI) hS 81 (gW_6 kd81) rfl 7 (by decide) f91 (fun _ h9 => h9) rfl (by decide +kernel) rfl rfl (Nat.le_of_ble_eq_true rfl) dX6_appendWord_103 (fun H locs hP _ hS => ?_)
        refine g_let hs (fun v_7 ev_7 hs => ?_)
        have hP : va_P D vwCl (gW cy ad v_7 u) H := gPset ((gS_6_7 kd81 ((v_6 81 7) + 1)).trans (congrArg (fun z => gW cy ad z u) ev_7.symm)) hP
        refine lv_aload_n hx hb dX6_appendWord_106 rfl (lv_at hl 0 rfl) ?_
        refine va_get (D := D) (ci := 6) (v := .ref (ad 83)) (C := RX6) (T := TX6) (N := 17) hx hb hts iX6 hown hK.1 hP 81 (gW_6 kd81) rfl 1 (by decide) f13 (fun _ h9 => h9) rfl dX6_appendWord_107 ?_
        refine lv_iload_n hx hb dX6_appendWord_110 rfl (lv_at hl 1 rfl) ?_
        refine g_chk hs (fun hc hs => ?_)
        refine va_iald hx hb hK.1 hP 83 0 (gW_15 kd83) rfl hc dX6_appendWord_111 ?_
        refine lv_istore_n (lv' := [(3, .int (v_7 83 w1.toNatClampNeg)), (0, .ref (ad 81)), (1, .int w1), (2, .int w2)]) hx hb dX6_appendWord_112 rfl hl (by decide) rfl (fun ls hl => ?_)
        exact hL_113 n v_7 w1 (v_7 83 w1.toNatClampNeg) _ _ _ hP hS (lv_sub hl [1, 2, 0] rfl) hs
    · have hs := g_f hs hc
      refine lv_aload_n hx hb dX6_appendWord_75 rfl (lv_at hl 0 rfl) ?_
      refine lv_iconst (v := 2) hx hb dX6_appendWord_76 (by decide) ?_
      refine g_bind hs (fun q_8 hq_8 hs => ?_)
      refine gCV_i (As := [.int 2]) (rest := []) ⟨hx, hb, hml, hown, hts⟩ (cX6_throwing_c l D cy ad tL z0 hI v u 2 q_8.1 q_8.2 hq_8) (cwV 1 hts gX6_appendWord_X6_throwing rfl rfl rfl (by decide +kernel) ⟨Nat.le_of_ble_eq_true rfl, Nat.le_of_ble_eq_true rfl⟩) hK hP hS (va_recv hK.1 hP (ci := 6) (q0 := 81) rfl (gW_6 kd81)) hl.1 rfl rfl (Nat.le_of_ble_eq_true rfl) dX6_appendWord_77 ⟨Nat.zero_le _, Nat.zero_le _⟩ (fun H locs hP hS => ?_)
      exact gRet_i hx hb hr hlocks hK hP hS (g_some2 hs) dX6_appendWord_80
  have hJ_49 : ∀ (v : gV) (w1 : Int32) (t0 : Int32) (H : Heap) (locs : List Loc) (ls : Array Slot), va_P D vwCl (gW cy ad v u) H → va_S (gA z0) s.heap H locs → lv_has ls 4 [(0, .ref (ad 81)), (1, .int w1)] → sX6_appendWord_49 n v w1 t0 = some (r0, v1) → W p l e (headSpec wsX6_appendWord ({ frames := 1, cells := 0, slots := 0, locals := 22 } : Room)).room s m ([.ref (ad 81), .int x1] : List Value).toArray below meth c H locs 0 0 (MQ below (gQi D cy ad tL z0 v1 u r0) ([.ref (ad 81), .int x1] : List Value).toArray s 0 0 (gA z0)) (F0 m 49 ls [.int t0]) := by
    intro v w1 t0 H locs ls hP hS hl hs
    unfold sX6_appendWord_49 at hs
    refine lv_istore_n (lv' := [(2, .int t0), (0, .ref (ad 81)), (1, .int w1)]) hx hb dX6_appendWord_49 rfl hl (by decide) rfl (fun ls hl => ?_)
    refine lv_aload_n hx hb dX6_appendWord_50 rfl (lv_at hl 1 rfl) ?_
    refine va_get (D := D) (ci := 6) (v := .int (v 81 7)) (C := RX6) (T := TX6) (N := 17) hx hb hts iX6 hown hK.1 hP 81 (gW_6 kd81) rfl 7 (by decide) f91 (fun _ h9 => h9) rfl dX6_appendWord_51 ?_
    refine lv_iload_n hx hb dX6_appendWord_54 rfl (lv_at hl 0 rfl) ?_
    refine lv_if_eq (tgt := 62) hx hb dX6_appendWord_55 (by decide) (fun hc => ?_) (fun hc => ?_)
    · have hs := g_t hs hc
      refine lv_iconst (v := 0) hx hb dX6_appendWord_62 (by decide) ?_
      exact hJ_63 v w1 t0 (v 81 7) 0 _ _ _ hP hS (lv_sub hl [1, 2, 0] rfl) hs
    · have hs := g_f hs hc
      refine lv_iconst (v := 1) hx hb dX6_appendWord_58 (by decide) ?_
      refine lv_goto (tgt := 63) hx hb dX6_appendWord_59 (by decide) ?_
      exact hJ_63 v w1 t0 (v 81 7) 1 _ _ _ hP hS (lv_sub hl [1, 2, 0] rfl) hs
  unfold sX6_appendWord at hs
  refine lv_aload_n hx hb dX6_appendWord_0 rfl (lv_at hl 0 rfl) ?_
  refine lv_iconst (v := 0) hx hb dX6_appendWord_1 (by decide) ?_
  refine va_put (D := D) (ci := 6) (v := .int 0) (ty := .int) (C := RX6) (T := TX6) (N := 17) hx hb hts iX6 tyX6 tyX6_ok nmX6 hown hK.1 hP (gD hI) hS 81 (gW_6 kd81) rfl 8 (by decide) f31 (fun _ h9 => h9) rfl (by decide +kernel) rfl rfl (Nat.le_of_ble_eq_true rfl) dX6_appendWord_2 (fun H locs hP _ hS => ?_)
  refine g_let hs (fun v_1 ev_1 hs => ?_)
  have hP : va_P D vwCl (gW cy ad v_1 u) H := gPset ((gS_6_8 kd81 0).trans (congrArg (fun z => gW cy ad z u) ev_1.symm)) hP
  refine lv_iload_n hx hb dX6_appendWord_5 rfl (lv_at hl 1 rfl) ?_
  refine lv_iconst (v := 0) hx hb dX6_appendWord_6 (by decide) ?_
  refine lv_bipush (v := 24) hx hb dX6_appendWord_7 (by decide) ?_
  refine g_bind hs (fun q_2 hq_2 hs => ?_)
  refine gCS_i (As := [.int x1, .int 0, .int 24]) (rest := []) ⟨hx, hb, hml, hown, hts⟩ (cX6_in_c l D cy ad tL z0 hI v_1 u x1 0 24 q_2 hq_2) (va_cwS 3 hts gX6_appendWord_X6_in rfl rfl rfl (by decide +kernel) ⟨Nat.le_of_ble_eq_true rfl, Nat.le_of_ble_eq_true rfl⟩) hK hP hS hl.1 rfl rfl (Nat.le_of_ble_eq_true rfl) dX6_appendWord_9 ⟨Nat.zero_le _, Nat.zero_le _⟩ (fun H locs hP hS => ?_)
  refine lv_if_ne (tgt := 21) hx hb dX6_appendWord_12 (by decide) (fun hc => ?_) (fun hc => ?_)
  · have hs := g_f hs hc
    refine lv_aload_n hx hb dX6_appendWord_21 rfl (lv_at hl 0 rfl) ?_
    refine va_get (D := D) (ci := 6) (v := .int (v_1 81 7)) (C := RX6) (T := TX6) (N := 17) hx hb hts iX6 hown hK.1 hP 81 (gW_6 kd81) rfl 7 (by decide) f91 (fun _ h9 => h9) rfl dX6_appendWord_22 ?_
    refine lv_if_le (tgt := 48) hx hb dX6_appendWord_25 (by decide) (fun hc => ?_) (fun hc => ?_)
    · have hs := g_t hs hc
      refine lv_iconst (v := 0) hx hb dX6_appendWord_48 (by decide) ?_
      exact hJ_49 v_1 x1 0 _ _ _ hP hS (lv_sub hl [0, 1] rfl) hs
    · have hs := g_f hs hc
      refine lv_aload_n hx hb dX6_appendWord_28 rfl (lv_at hl 0 rfl) ?_
      refine va_get (D := D) (ci := 6) (v := .ref (ad 87)) (C := RX6) (T := TX6) (N := 17) hx hb hts iX6 hown hK.1 hP 81 (gW_6 kd81) rfl 6 (by decide) f25 (fun _ h9 => h9) rfl dX6_appendWord_29 ?_
      refine lv_aload_n hx hb dX6_appendWord_32 rfl (lv_at hl 0 rfl) ?_
      refine va_get (D := D) (ci := 6) (v := .int (v_1 81 7)) (C := RX6) (T := TX6) (N := 17) hx hb hts iX6 hown hK.1 hP 81 (gW_6 kd81) rfl 7 (by decide) f91 (fun _ h9 => h9) rfl dX6_appendWord_33 ?_
      refine lv_iconst (v := 1) hx hb dX6_appendWord_36 (by decide) ?_
      refine lv_isub hx hb dX6_appendWord_37 ?_
      refine g_chk hs (fun hc hs => ?_)
      refine va_iald hx hb hK.1 hP 87 0 (gW_18 kd87) rfl hc dX6_appendWord_38 ?_
      refine lv_bipush (v := 32) hx hb dX6_appendWord_39 (by decide) ?_
      refine lv_icmp_eq (tgt := 48) hx hb dX6_appendWord_41 (by decide) (fun hc => ?_) (fun hc => ?_)
      · have hs := g_t hs hc
        refine lv_iconst (v := 0) hx hb dX6_appendWord_48 (by decide) ?_
        exact hJ_49 v_1 x1 0 _ _ _ hP hS (lv_sub hl [0, 1] rfl) hs
      · have hs := g_f hs hc
        refine lv_iconst (v := 1) hx hb dX6_appendWord_44 (by decide) ?_
        refine lv_goto (tgt := 49) hx hb dX6_appendWord_45 (by decide) ?_
        exact hJ_49 v_1 x1 1 _ _ _ hP hS (lv_sub hl [0, 1] rfl) hs
  · have hs := g_t hs hc
    refine lv_aload_n hx hb dX6_appendWord_15 rfl (lv_at hl 0 rfl) ?_
    refine lv_iconst (v := 1) hx hb dX6_appendWord_16 (by decide) ?_
    refine g_bind hs (fun q_9 hq_9 hs => ?_)
    refine gCV_i (As := [.int 1]) (rest := []) ⟨hx, hb, hml, hown, hts⟩ (cX6_throwing_c l D cy ad tL z0 hI v_1 u 1 q_9.1 q_9.2 hq_9) (cwV 1 hts gX6_appendWord_X6_throwing rfl rfl rfl (by decide +kernel) ⟨Nat.le_of_ble_eq_true rfl, Nat.le_of_ble_eq_true rfl⟩) hK hP hS (va_recv hK.1 hP (ci := 6) (q0 := 81) rfl (gW_6 kd81)) hl.1 rfl rfl (Nat.le_of_ble_eq_true rfl) dX6_appendWord_17 ⟨Nat.zero_le _, Nat.zero_le _⟩ (fun H locs hP hS => ?_)
    exact gRet_i hx hb hr hlocks hK hP hS (g_some2 hs) dX6_appendWord_20
set_option maxHeartbeats 4000000 in
set_option maxRecDepth 100000 in
theorem cX6_clearBuffer_c (l : Launch) (D : va_G) (cy : Nat → ClassId) (ad : Nat → Nat) (tL z0 : Nat) (hI : gI z0 ad) (v : gV) (u : Int64) (r0 : Int32) (v1 : gV) (hs : sX6_clearBuffer v = some (r0, v1)) : Met l yX6_clearBuffer wsX6_clearBuffer ({ frames := 0, cells := 0, slots := 0, locals := 0 } : Room) (gPc D cy ad tL z0 v u [.ref (ad 81)]) (gQi D cy ad tL z0 v1 u r0) 0 0 (gA z0) := by
  refine Met.ofW (cc := cX6_clearBuffer) (maxL := 2) (ret := (some .int)) (by decide) rfl ?_
  intro p e s m args below meth c s₁ B hml hv
  obtain ⟨rfl, hB0⟩ := hv
  have hP : va_P D vwCl (gW cy ad v u) s.heap := hB0.1
  have hK : gK D cy tL z0 s s.heap := hB0.2
  have hx := B.exec
  have hb := B.bytes
  have hr := B.returns
  have hts := atoms_spec (ws := wsX6_clearBuffer) B.pre
  have hown : s.vm.findClass RX6 = some m.cls := findClass_of_methodNamed B.named
  have hlocks := B.notSynchronized
  have hS : va_S (gA z0) s.heap s.heap [] := va_S.rf
  have hl := lv_entry ([.ref (ad 81)]) (n := 2) (Nat.le_of_ble_eq_true rfl)
  rw [lg_entry_eq]
  generalize (lg_sl ([.ref (ad 81)]) ++ List.replicate (2 - (lg_sl ([.ref (ad 81)])).length) Slot.unset).toArray = ls at hl ⊢
  have hl : lv_has ls 2 [(0, .ref (ad 81))] := hl
  have iX6 := (show ∀ w ∈ u_ws RX6 TX6 17, w ∈ wsX6_clearBuffer by decide +kernel)
  have f31 := hts (.fieldLink RX6 31 "AdventureParserModel" "thrown" "I") (by decide +kernel)
  have f91 := hts (.fieldLink RX6 91 "AdventureParserModel" "length" "I") (by decide +kernel)
  clear hB0
  unfold sX6_clearBuffer at hs
  refine lv_aload_n hx hb dX6_clearBuffer_0 rfl (lv_at hl 0 rfl) ?_
  refine lv_iconst (v := 0) hx hb dX6_clearBuffer_1 (by decide) ?_
  refine va_put (D := D) (ci := 6) (v := .int 0) (ty := .int) (C := RX6) (T := TX6) (N := 17) hx hb hts iX6 tyX6 tyX6_ok nmX6 hown hK.1 hP (gD hI) hS 81 (gW_6 kd81) rfl 8 (by decide) f31 (fun _ h9 => h9) rfl (by decide +kernel) rfl rfl (Nat.le_of_ble_eq_true rfl) dX6_clearBuffer_2 (fun H locs hP _ hS => ?_)
  refine g_let hs (fun v_1 ev_1 hs => ?_)
  have hP : va_P D vwCl (gW cy ad v_1 u) H := gPset ((gS_6_8 kd81 0).trans (congrArg (fun z => gW cy ad z u) ev_1.symm)) hP
  refine lv_aload_n hx hb dX6_clearBuffer_5 rfl (lv_at hl 0 rfl) ?_
  refine va_get (D := D) (ci := 6) (v := .int (v_1 81 7)) (C := RX6) (T := TX6) (N := 17) hx hb hts iX6 hown hK.1 hP 81 (gW_6 kd81) rfl 7 (by decide) f91 (fun _ h9 => h9) rfl dX6_clearBuffer_6 ?_
  refine lv_istore_n (lv' := [(1, .int (v_1 81 7)), (0, .ref (ad 81))]) hx hb dX6_clearBuffer_9 rfl hl (by decide) rfl (fun ls hl => ?_)
  refine lv_aload_n hx hb dX6_clearBuffer_10 rfl (lv_at hl 1 rfl) ?_
  refine lv_iconst (v := 0) hx hb dX6_clearBuffer_11 (by decide) ?_
  refine va_put (D := D) (ci := 6) (v := .int 0) (ty := .int) (C := RX6) (T := TX6) (N := 17) hx hb hts iX6 tyX6 tyX6_ok nmX6 hown hK.1 hP (gD hI) hS 81 (gW_6 kd81) rfl 7 (by decide) f91 (fun _ h9 => h9) rfl (by decide +kernel) rfl rfl (Nat.le_of_ble_eq_true rfl) dX6_clearBuffer_12 (fun H locs hP _ hS => ?_)
  refine g_let hs (fun v_2 ev_2 hs => ?_)
  have hP : va_P D vwCl (gW cy ad v_2 u) H := gPset ((gS_6_7 kd81 0).trans (congrArg (fun z => gW cy ad z u) ev_2.symm)) hP
  refine lv_iload_n hx hb dX6_clearBuffer_15 rfl (lv_at hl 0 rfl) ?_
  exact gRet_i hx hb hr hlocks hK hP hS (g_some2 hs) dX6_clearBuffer_16
set_option maxHeartbeats 4000000 in
set_option maxRecDepth 100000 in
theorem cX6_firstError_c (l : Launch) (D : va_G) (cy : Nat → ClassId) (ad : Nat → Nat) (tL z0 : Nat) (hI : gI z0 ad) (n : Nat) (v : gV) (u : Int64) (r0 : Int32) (v1 : gV) (hs : sX6_firstError n v = some (r0, v1)) : Met l yX6_firstError wsX6_firstError ({ frames := 6, cells := 0, slots := 0, locals := 140 } : Room) (gPc D cy ad tL z0 v u [.ref (ad 81)]) (gQi D cy ad tL z0 v1 u r0) 0 0 (gA z0) := by
  refine Met.ofW (cc := cX6_firstError) (maxL := 1) (ret := (some .int)) (by decide) rfl ?_
  intro p e s m args below meth c s₁ B hml hv
  obtain ⟨rfl, hB0⟩ := hv
  have hP : va_P D vwCl (gW cy ad v u) s.heap := hB0.1
  have hK : gK D cy tL z0 s s.heap := hB0.2
  have hx := B.exec
  have hb := B.bytes
  have hr := B.returns
  have hts := atoms_spec (ws := wsX6_firstError) B.pre
  have hown : s.vm.findClass RX6 = some m.cls := findClass_of_methodNamed B.named
  have hlocks := B.notSynchronized
  have hS : va_S (gA z0) s.heap s.heap [] := va_S.rf
  have hl := lv_entry ([.ref (ad 81)]) (n := 1) (Nat.le_of_ble_eq_true rfl)
  rw [lg_entry_eq]
  generalize (lg_sl ([.ref (ad 81)]) ++ List.replicate (1 - (lg_sl ([.ref (ad 81)])).length) Slot.unset).toArray = ls at hl ⊢
  have hl : lv_has ls 1 [(0, .ref (ad 81))] := hl
  have iX6 := (show ∀ w ∈ u_ws RX6 TX6 17, w ∈ wsX6_firstError by decide +kernel)
  have f31 := hts (.fieldLink RX6 31 "AdventureParserModel" "thrown" "I") (by decide +kernel)
  clear hB0
  unfold sX6_firstError at hs
  refine lv_aload_n hx hb dX6_firstError_0 rfl (lv_at hl 0 rfl) ?_
  refine lv_iconst (v := 0) hx hb dX6_firstError_1 (by decide) ?_
  refine va_put (D := D) (ci := 6) (v := .int 0) (ty := .int) (C := RX6) (T := TX6) (N := 17) hx hb hts iX6 tyX6 tyX6_ok nmX6 hown hK.1 hP (gD hI) hS 81 (gW_6 kd81) rfl 8 (by decide) f31 (fun _ h9 => h9) rfl (by decide +kernel) rfl rfl (Nat.le_of_ble_eq_true rfl) dX6_firstError_2 (fun H locs hP _ hS => ?_)
  refine g_let hs (fun v_1 ev_1 hs => ?_)
  have hP : va_P D vwCl (gW cy ad v_1 u) H := gPset ((gS_6_8 kd81 0).trans (congrArg (fun z => gW cy ad z u) ev_1.symm)) hP
  refine lv_aload_n hx hb dX6_firstError_5 rfl (lv_at hl 0 rfl) ?_
  refine g_bind hs (fun q_2 hq_2 hs => ?_)
  refine gCV_i (As := []) (rest := []) ⟨hx, hb, hml, hown, hts⟩ (cX6_read_c l D cy ad tL z0 hI n v_1 u q_2.1 q_2.2 hq_2) (cwV 0 hts gX6_firstError_X6_read rfl rfl rfl (by decide +kernel) ⟨Nat.le_of_ble_eq_true rfl, Nat.le_of_ble_eq_true rfl⟩) hK hP hS (va_recv hK.1 hP (ci := 6) (q0 := 81) rfl (gW_6 kd81)) hl.1 rfl rfl (Nat.le_of_ble_eq_true rfl) dX6_firstError_6 ⟨Nat.zero_le _, Nat.zero_le _⟩ (fun H locs hP hS => ?_)
  exact gRet_i hx hb hr hlocks hK hP hS (g_some2 hs) dX6_firstError_9
set_option maxHeartbeats 4000000 in
set_option maxRecDepth 100000 in
theorem cX6_isPossible_c (l : Launch) (D : va_G) (cy : Nat → ClassId) (ad : Nat → Nat) (tL z0 : Nat) (hI : gI z0 ad) (n : Nat) (v : gV) (u : Int64) (r0 : Int32) (v1 : gV) (hs : sX6_isPossible n v = some (r0, v1)) : Met l yX6_isPossible wsX6_isPossible ({ frames := 6, cells := 0, slots := 0, locals := 140 } : Room) (gPc D cy ad tL z0 v u [.ref (ad 81)]) (gQi D cy ad tL z0 v1 u r0) 0 0 (gA z0) := by
  refine Met.ofW (cc := cX6_isPossible) (maxL := 1) (ret := (some .boolean)) (by decide) rfl ?_
  intro p e s m args below meth c s₁ B hml hv
  obtain ⟨rfl, hB0⟩ := hv
  have hP : va_P D vwCl (gW cy ad v u) s.heap := hB0.1
  have hK : gK D cy tL z0 s s.heap := hB0.2
  have hx := B.exec
  have hb := B.bytes
  have hr := B.returns
  have hts := atoms_spec (ws := wsX6_isPossible) B.pre
  have hown : s.vm.findClass RX6 = some m.cls := findClass_of_methodNamed B.named
  have hlocks := B.notSynchronized
  have hS : va_S (gA z0) s.heap s.heap [] := va_S.rf
  have hl := lv_entry ([.ref (ad 81)]) (n := 1) (Nat.le_of_ble_eq_true rfl)
  rw [lg_entry_eq]
  generalize (lg_sl ([.ref (ad 81)]) ++ List.replicate (1 - (lg_sl ([.ref (ad 81)])).length) Slot.unset).toArray = ls at hl ⊢
  have hl : lv_has ls 1 [(0, .ref (ad 81))] := hl
  have iX6 := (show ∀ w ∈ u_ws RX6 TX6 17, w ∈ wsX6_isPossible by decide +kernel)
  have f91 := hts (.fieldLink RX6 91 "AdventureParserModel" "length" "I") (by decide +kernel)
  have f87 := hts (.fieldLink RX6 87 "AdventureParserModel" "isComplete" "Z") (by decide +kernel)
  clear hB0
  unfold sX6_isPossible at hs
  refine lv_aload_n hx hb dX6_isPossible_0 rfl (lv_at hl 0 rfl) ?_
  refine g_bind hs (fun q_1 hq_1 hs => ?_)
  refine gCV_i (As := []) (rest := []) ⟨hx, hb, hml, hown, hts⟩ (cX6_read_c l D cy ad tL z0 hI n v u q_1.1 q_1.2 hq_1) (cwV 0 hts gX6_isPossible_X6_read rfl rfl rfl (by decide +kernel) ⟨Nat.le_of_ble_eq_true rfl, Nat.le_of_ble_eq_true rfl⟩) hK hP hS (va_recv hK.1 hP (ci := 6) (q0 := 81) rfl (gW_6 kd81)) hl.1 rfl rfl (Nat.le_of_ble_eq_true rfl) dX6_isPossible_1 ⟨Nat.zero_le _, Nat.zero_le _⟩ (fun H locs hP hS => ?_)
  refine lv_aload_n hx hb dX6_isPossible_4 rfl (lv_at hl 0 rfl) ?_
  refine va_get (D := D) (ci := 6) (v := .int (q_1.2 81 7)) (C := RX6) (T := TX6) (N := 17) hx hb hts iX6 hown hK.1 hP 81 (gW_6 kd81) rfl 7 (by decide) f91 (fun _ h9 => h9) rfl dX6_isPossible_5 ?_
  refine lv_icmp_ne (tgt := 22) hx hb dX6_isPossible_8 (by decide) (fun hc => ?_) (fun hc => ?_)
  · have hs := g_f hs hc
    refine lv_iconst (v := 0) hx hb dX6_isPossible_22 (by decide) ?_
    exact gRet_z hx hb hr hlocks rfl hK hP hS (g_some2 hs) dX6_isPossible_23
  · have hs := g_t hs hc
    refine lv_aload_n hx hb dX6_isPossible_11 rfl (lv_at hl 0 rfl) ?_
    refine va_get (D := D) (ci := 6) (v := .int (q_1.2 81 11)) (C := RX6) (T := TX6) (N := 17) hx hb hts iX6 hown hK.1 hP 81 (gW_6 kd81) rfl 11 (by decide) f87 (fun _ h9 => h9) rfl dX6_isPossible_12 ?_
    refine lv_if_eq (tgt := 22) hx hb dX6_isPossible_15 (by decide) (fun hc => ?_) (fun hc => ?_)
    · have hs := g_t hs hc
      refine lv_iconst (v := 0) hx hb dX6_isPossible_22 (by decide) ?_
      exact gRet_z hx hb hr hlocks rfl hK hP hS (g_some2 hs) dX6_isPossible_23
    · have hs := g_f hs hc
      refine lv_iconst (v := 1) hx hb dX6_isPossible_18 (by decide) ?_
      refine lv_goto (tgt := 23) hx hb dX6_isPossible_19 (by decide) ?_
      exact gRet_z hx hb hr hlocks rfl hK hP hS (g_some2 hs) dX6_isPossible_23
set_option maxHeartbeats 4000000 in
set_option maxRecDepth 100000 in
theorem cX6_enter_c (l : Launch) (D : va_G) (cy : Nat → ClassId) (ad : Nat → Nat) (tL z0 : Nat) (hI : gI z0 ad) (n : Nat) (v : gV) (u : Int64) (r0 : Int32) (v1 : gV) (hs : sX6_enter n v = some (r0, v1)) : Met l yX6_enter wsX6_enter ({ frames := 10, cells := 0, slots := 0, locals := 227 } : Room) (gPc D cy ad tL z0 v u [.ref (ad 81)]) (gQi D cy ad tL z0 v1 u r0) 0 0 (gA z0) := by
  refine Met.ofW (cc := cX6_enter) (maxL := 1) (ret := (some .int)) (by decide) rfl ?_
  intro p e s m args below meth c s₁ B hml hv
  obtain ⟨rfl, hB0⟩ := hv
  have hP : va_P D vwCl (gW cy ad v u) s.heap := hB0.1
  have hK : gK D cy tL z0 s s.heap := hB0.2
  have hx := B.exec
  have hb := B.bytes
  have hr := B.returns
  have hts := atoms_spec (ws := wsX6_enter) B.pre
  have hown : s.vm.findClass RX6 = some m.cls := findClass_of_methodNamed B.named
  have hlocks := B.notSynchronized
  have hS : va_S (gA z0) s.heap s.heap [] := va_S.rf
  have hl := lv_entry ([.ref (ad 81)]) (n := 1) (Nat.le_of_ble_eq_true rfl)
  rw [lg_entry_eq]
  generalize (lg_sl ([.ref (ad 81)]) ++ List.replicate (1 - (lg_sl ([.ref (ad 81)])).length) Slot.unset).toArray = ls at hl ⊢
  have hl : lv_has ls 1 [(0, .ref (ad 81))] := hl
  have iX6 := (show ∀ w ∈ u_ws RX6 TX6 17, w ∈ wsX6_enter by decide +kernel)
  have f31 := hts (.fieldLink RX6 31 "AdventureParserModel" "thrown" "I") (by decide +kernel)
  have f91 := hts (.fieldLink RX6 91 "AdventureParserModel" "length" "I") (by decide +kernel)
  clear hB0
  unfold sX6_enter at hs
  refine lv_aload_n hx hb dX6_enter_0 rfl (lv_at hl 0 rfl) ?_
  refine lv_iconst (v := 0) hx hb dX6_enter_1 (by decide) ?_
  refine va_put (D := D) (ci := 6) (v := .int 0) (ty := .int) (C := RX6) (T := TX6) (N := 17) hx hb hts iX6 tyX6 tyX6_ok nmX6 hown hK.1 hP (gD hI) hS 81 (gW_6 kd81) rfl 8 (by decide) f31 (fun _ h9 => h9) rfl (by decide +kernel) rfl rfl (Nat.le_of_ble_eq_true rfl) dX6_enter_2 (fun H locs hP _ hS => ?_)
  refine g_let hs (fun v_1 ev_1 hs => ?_)
  have hP : va_P D vwCl (gW cy ad v_1 u) H := gPset ((gS_6_8 kd81 0).trans (congrArg (fun z => gW cy ad z u) ev_1.symm)) hP
  refine lv_aload_n hx hb dX6_enter_5 rfl (lv_at hl 0 rfl) ?_
  refine g_bind hs (fun q_2 hq_2 hs => ?_)
  refine gCV_i (As := []) (rest := []) ⟨hx, hb, hml, hown, hts⟩ (cX6_isPossible_c l D cy ad tL z0 hI n v_1 u q_2.1 q_2.2 hq_2) (cwV 0 hts gX6_enter_X6_isPossible rfl rfl rfl (by decide +kernel) ⟨Nat.le_of_ble_eq_true rfl, Nat.le_of_ble_eq_true rfl⟩) hK hP hS (va_recv hK.1 hP (ci := 6) (q0 := 81) rfl (gW_6 kd81)) hl.1 rfl rfl (Nat.le_of_ble_eq_true rfl) dX6_enter_6 ⟨Nat.zero_le _, Nat.zero_le _⟩ (fun H locs hP hS => ?_)
  refine lv_if_ne (tgt := 18) hx hb dX6_enter_9 (by decide) (fun hc => ?_) (fun hc => ?_)
  · have hs := g_f hs hc
    refine lv_aload_n hx hb dX6_enter_18 rfl (lv_at hl 0 rfl) ?_
    refine g_bind hs (fun q_3 hq_3 hs => ?_)
    refine gCV_v (As := []) (rest := []) ⟨hx, hb, hml, hown, hts⟩ (cX6_save_c l D cy ad tL z0 hI n q_2.2 u q_3 hq_3) (cwV 0 hts gX6_enter_X6_save rfl rfl rfl (by decide +kernel) ⟨Nat.le_of_ble_eq_true rfl, Nat.le_of_ble_eq_true rfl⟩) hK hP hS (va_recv hK.1 hP (ci := 6) (q0 := 81) rfl (gW_6 kd81)) hl.1 rfl rfl (Nat.le_of_ble_eq_true rfl) dX6_enter_19 ⟨Nat.zero_le _, Nat.zero_le _⟩ (fun H locs hP hS => ?_)
    refine lv_aload_n hx hb dX6_enter_22 rfl (lv_at hl 0 rfl) ?_
    refine lv_iconst (v := 0) hx hb dX6_enter_23 (by decide) ?_
    refine va_put (D := D) (ci := 6) (v := .int 0) (ty := .int) (C := RX6) (T := TX6) (N := 17) hx hb hts iX6 tyX6 tyX6_ok nmX6 hown hK.1 hP (gD hI) hS 81 (gW_6 kd81) rfl 7 (by decide) f91 (fun _ h9 => h9) rfl (by decide +kernel) rfl rfl (Nat.le_of_ble_eq_true rfl) dX6_enter_24 (fun H locs hP _ hS => ?_)
    refine g_let hs (fun v_4 ev_4 hs => ?_)
    have hP : va_P D vwCl (gW cy ad v_4 u) H := gPset ((gS_6_7 kd81 0).trans (congrArg (fun z => gW cy ad z u) ev_4.symm)) hP
    refine lv_aload_n hx hb dX6_enter_27 rfl (lv_at hl 0 rfl) ?_
    refine g_bind hs (fun q_5 hq_5 hs => ?_)
    refine gCV_i (As := []) (rest := []) ⟨hx, hb, hml, hown, hts⟩ (cX6_entered_c l D cy ad tL z0 hI n v_4 u q_5.1 q_5.2 hq_5) (cwV 0 hts gX6_enter_X6_entered rfl rfl rfl (by decide +kernel) ⟨Nat.le_of_ble_eq_true rfl, Nat.le_of_ble_eq_true rfl⟩) hK hP hS (va_recv hK.1 hP (ci := 6) (q0 := 81) rfl (gW_6 kd81)) hl.1 rfl rfl (Nat.le_of_ble_eq_true rfl) dX6_enter_28 ⟨Nat.zero_le _, Nat.zero_le _⟩ (fun H locs hP hS => ?_)
    exact gRet_i hx hb hr hlocks hK hP hS (g_some2 hs) dX6_enter_31
  · have hs := g_t hs hc
    refine lv_aload_n hx hb dX6_enter_12 rfl (lv_at hl 0 rfl) ?_
    refine lv_iconst (v := 1) hx hb dX6_enter_13 (by decide) ?_
    refine g_bind hs (fun q_6 hq_6 hs => ?_)
    refine gCV_i (As := [.int 1]) (rest := []) ⟨hx, hb, hml, hown, hts⟩ (cX6_throwing_c l D cy ad tL z0 hI q_2.2 u 1 q_6.1 q_6.2 hq_6) (cwV 1 hts gX6_enter_X6_throwing rfl rfl rfl (by decide +kernel) ⟨Nat.le_of_ble_eq_true rfl, Nat.le_of_ble_eq_true rfl⟩) hK hP hS (va_recv hK.1 hP (ci := 6) (q0 := 81) rfl (gW_6 kd81)) hl.1 rfl rfl (Nat.le_of_ble_eq_true rfl) dX6_enter_14 ⟨Nat.zero_le _, Nat.zero_le _⟩ (fun H locs hP hS => ?_)
    exact gRet_i hx hb hr hlocks hK hP hS (g_some2 hs) dX6_enter_17
set_option maxHeartbeats 4000000 in
set_option maxRecDepth 100000 in
theorem cX6_ifEntered_c (l : Launch) (D : va_G) (cy : Nat → ClassId) (ad : Nat → Nat) (tL z0 : Nat) (hI : gI z0 ad) (n : Nat) (v : gV) (u : Int64) (r0 : Int32) (v1 : gV) (hs : sX6_ifEntered n v = some (r0, v1)) : Met l yX6_ifEntered wsX6_ifEntered ({ frames := 10, cells := 0, slots := 0, locals := 227 } : Room) (gPc D cy ad tL z0 v u [.ref (ad 81)]) (gQi D cy ad tL z0 v1 u r0) 0 0 (gA z0) := by
  refine Met.ofW (cc := cX6_ifEntered) (maxL := 2) (ret := (some .int)) (by decide) rfl ?_
  intro p e s m args below meth c s₁ B hml hv
  obtain ⟨rfl, hB0⟩ := hv
  have hP : va_P D vwCl (gW cy ad v u) s.heap := hB0.1
  have hK : gK D cy tL z0 s s.heap := hB0.2
  have hx := B.exec
  have hb := B.bytes
  have hr := B.returns
  have hts := atoms_spec (ws := wsX6_ifEntered) B.pre
  have hown : s.vm.findClass RX6 = some m.cls := findClass_of_methodNamed B.named
  have hlocks := B.notSynchronized
  have hS : va_S (gA z0) s.heap s.heap [] := va_S.rf
  have hl := lv_entry ([.ref (ad 81)]) (n := 2) (Nat.le_of_ble_eq_true rfl)
  rw [lg_entry_eq]
  generalize (lg_sl ([.ref (ad 81)]) ++ List.replicate (2 - (lg_sl ([.ref (ad 81)])).length) Slot.unset).toArray = ls at hl ⊢
  have hl : lv_has ls 2 [(0, .ref (ad 81))] := hl
  have iX6 := (show ∀ w ∈ u_ws RX6 TX6 17, w ∈ wsX6_ifEntered by decide +kernel)
  have f31 := hts (.fieldLink RX6 31 "AdventureParserModel" "thrown" "I") (by decide +kernel)
  clear hB0
  unfold sX6_ifEntered at hs
  refine lv_aload_n hx hb dX6_ifEntered_0 rfl (lv_at hl 0 rfl) ?_
  refine lv_iconst (v := 0) hx hb dX6_ifEntered_1 (by decide) ?_
  refine va_put (D := D) (ci := 6) (v := .int 0) (ty := .int) (C := RX6) (T := TX6) (N := 17) hx hb hts iX6 tyX6 tyX6_ok nmX6 hown hK.1 hP (gD hI) hS 81 (gW_6 kd81) rfl 8 (by decide) f31 (fun _ h9 => h9) rfl (by decide +kernel) rfl rfl (Nat.le_of_ble_eq_true rfl) dX6_ifEntered_2 (fun H locs hP _ hS => ?_)
  refine g_let hs (fun v_1 ev_1 hs => ?_)
  have hP : va_P D vwCl (gW cy ad v_1 u) H := gPset ((gS_6_8 kd81 0).trans (congrArg (fun z => gW cy ad z u) ev_1.symm)) hP
  refine lv_aload_n hx hb dX6_ifEntered_5 rfl (lv_at hl 0 rfl) ?_
  refine g_bind hs (fun q_2 hq_2 hs => ?_)
  refine gCV_i (As := []) (rest := []) ⟨hx, hb, hml, hown, hts⟩ (cX6_isPossible_c l D cy ad tL z0 hI n v_1 u q_2.1 q_2.2 hq_2) (cwV 0 hts gX6_ifEntered_X6_isPossible rfl rfl rfl (by decide +kernel) ⟨Nat.le_of_ble_eq_true rfl, Nat.le_of_ble_eq_true rfl⟩) hK hP hS (va_recv hK.1 hP (ci := 6) (q0 := 81) rfl (gW_6 kd81)) hl.1 rfl rfl (Nat.le_of_ble_eq_true rfl) dX6_ifEntered_6 ⟨Nat.zero_le _, Nat.zero_le _⟩ (fun H locs hP hS => ?_)
  refine lv_if_ne (tgt := 18) hx hb dX6_ifEntered_9 (by decide) (fun hc => ?_) (fun hc => ?_)
  · have hs := g_f hs hc
    refine lv_aload_n hx hb dX6_ifEntered_18 rfl (lv_at hl 0 rfl) ?_
    refine g_bind hs (fun q_3 hq_3 hs => ?_)
    refine gCV_v (As := []) (rest := []) ⟨hx, hb, hml, hown, hts⟩ (cX6_putAside_c l D cy ad tL z0 hI n q_2.2 u q_3 hq_3) (cwV 0 hts gX6_ifEntered_X6_putAside rfl rfl rfl (by decide +kernel) ⟨Nat.le_of_ble_eq_true rfl, Nat.le_of_ble_eq_true rfl⟩) hK hP hS (va_recv hK.1 hP (ci := 6) (q0 := 81) rfl (gW_6 kd81)) hl.1 rfl rfl (Nat.le_of_ble_eq_true rfl) dX6_ifEntered_19 ⟨Nat.zero_le _, Nat.zero_le _⟩ (fun H locs hP hS => ?_)
    refine lv_aload_n hx hb dX6_ifEntered_22 rfl (lv_at hl 0 rfl) ?_
    refine g_bind hs (fun q_4 hq_4 hs => ?_)
    refine gCV_i (As := []) (rest := []) ⟨hx, hb, hml, hown, hts⟩ (cX6_entered_c l D cy ad tL z0 hI n q_3 u q_4.1 q_4.2 hq_4) (cwV 0 hts gX6_ifEntered_X6_entered rfl rfl rfl (by decide +kernel) ⟨Nat.le_of_ble_eq_true rfl, Nat.le_of_ble_eq_true rfl⟩) hK hP hS (va_recv hK.1 hP (ci := 6) (q0 := 81) rfl (gW_6 kd81)) hl.1 rfl rfl (Nat.le_of_ble_eq_true rfl) dX6_ifEntered_23 ⟨Nat.zero_le _, Nat.zero_le _⟩ (fun H locs hP hS => ?_)
    refine lv_istore_n (lv' := [(1, .int q_4.1), (0, .ref (ad 81))]) hx hb dX6_ifEntered_26 rfl hl (by decide) rfl (fun ls hl => ?_)
    refine lv_aload_n hx hb dX6_ifEntered_27 rfl (lv_at hl 1 rfl) ?_
    refine g_bind hs (fun q_5 hq_5 hs => ?_)
    refine gCV_v (As := []) (rest := []) ⟨hx, hb, hml, hown, hts⟩ (cX6_putBack_c l D cy ad tL z0 hI n q_4.2 u q_5 hq_5) (cwV 0 hts gX6_ifEntered_X6_putBack rfl rfl rfl (by decide +kernel) ⟨Nat.le_of_ble_eq_true rfl, Nat.le_of_ble_eq_true rfl⟩) hK hP hS (va_recv hK.1 hP (ci := 6) (q0 := 81) rfl (gW_6 kd81)) hl.1 rfl rfl (Nat.le_of_ble_eq_true rfl) dX6_ifEntered_28 ⟨Nat.zero_le _, Nat.zero_le _⟩ (fun H locs hP hS => ?_)
    refine lv_iload_n hx hb dX6_ifEntered_31 rfl (lv_at hl 0 rfl) ?_
    exact gRet_i hx hb hr hlocks hK hP hS (g_some2 hs) dX6_ifEntered_32
  · have hs := g_t hs hc
    refine lv_aload_n hx hb dX6_ifEntered_12 rfl (lv_at hl 0 rfl) ?_
    refine lv_iconst (v := 1) hx hb dX6_ifEntered_13 (by decide) ?_
    refine g_bind hs (fun q_6 hq_6 hs => ?_)
    refine gCV_i (As := [.int 1]) (rest := []) ⟨hx, hb, hml, hown, hts⟩ (cX6_throwing_c l D cy ad tL z0 hI q_2.2 u 1 q_6.1 q_6.2 hq_6) (cwV 1 hts gX6_ifEntered_X6_throwing rfl rfl rfl (by decide +kernel) ⟨Nat.le_of_ble_eq_true rfl, Nat.le_of_ble_eq_true rfl⟩) hK hP hS (va_recv hK.1 hP (ci := 6) (q0 := 81) rfl (gW_6 kd81)) hl.1 rfl rfl (Nat.le_of_ble_eq_true rfl) dX6_ifEntered_14 ⟨Nat.zero_le _, Nat.zero_le _⟩ (fun H locs hP hS => ?_)
    exact gRet_i hx hb hr hlocks hK hP hS (g_some2 hs) dX6_ifEntered_17
set_option maxHeartbeats 4000000 in
set_option maxRecDepth 100000 in
theorem cX6_executed_c (l : Launch) (D : va_G) (cy : Nat → ClassId) (ad : Nat → Nat) (tL z0 : Nat) (hI : gI z0 ad) (v : gV) (u : Int64) (r0 : Int32) (v1 : gV) (hs : sX6_executed v = some (r0, v1)) : Met l yX6_executed wsX6_executed ({ frames := 0, cells := 0, slots := 0, locals := 0 } : Room) (gPc D cy ad tL z0 v u [.ref (ad 81)]) (gQi D cy ad tL z0 v1 u r0) 0 0 (gA z0) := by
  refine Met.ofW (cc := cX6_executed) (maxL := 1) (ret := (some .int)) (by decide) rfl ?_
  intro p e s m args below meth c s₁ B hml hv
  obtain ⟨rfl, hB0⟩ := hv
  have hP : va_P D vwCl (gW cy ad v u) s.heap := hB0.1
  have hK : gK D cy tL z0 s s.heap := hB0.2
  have hx := B.exec
  have hb := B.bytes
  have hr := B.returns
  have hts := atoms_spec (ws := wsX6_executed) B.pre
  have hown : s.vm.findClass RX6 = some m.cls := findClass_of_methodNamed B.named
  have hlocks := B.notSynchronized
  have hS : va_S (gA z0) s.heap s.heap [] := va_S.rf
  have hl := lv_entry ([.ref (ad 81)]) (n := 1) (Nat.le_of_ble_eq_true rfl)
  rw [lg_entry_eq]
  generalize (lg_sl ([.ref (ad 81)]) ++ List.replicate (1 - (lg_sl ([.ref (ad 81)])).length) Slot.unset).toArray = ls at hl ⊢
  have hl : lv_has ls 1 [(0, .ref (ad 81))] := hl
  have iX6 := (show ∀ w ∈ u_ws RX6 TX6 17, w ∈ wsX6_executed by decide +kernel)
  have f31 := hts (.fieldLink RX6 31 "AdventureParserModel" "thrown" "I") (by decide +kernel)
  have f16 := hts (.fieldLink RX6 16 "AdventureParserModel" "s" "[I") (by decide +kernel)
  clear hB0
  unfold sX6_executed at hs
  refine lv_aload_n hx hb dX6_executed_0 rfl (lv_at hl 0 rfl) ?_
  refine lv_iconst (v := 0) hx hb dX6_executed_1 (by decide) ?_
  refine va_put (D := D) (ci := 6) (v := .int 0) (ty := .int) (C := RX6) (T := TX6) (N := 17) hx hb hts iX6 tyX6 tyX6_ok nmX6 hown hK.1 hP (gD hI) hS 81 (gW_6 kd81) rfl 8 (by decide) f31 (fun _ h9 => h9) rfl (by decide +kernel) rfl rfl (Nat.le_of_ble_eq_true rfl) dX6_executed_2 (fun H locs hP _ hS => ?_)
  refine g_let hs (fun v_1 ev_1 hs => ?_)
  have hP : va_P D vwCl (gW cy ad v_1 u) H := gPset ((gS_6_8 kd81 0).trans (congrArg (fun z => gW cy ad z u) ev_1.symm)) hP
  refine lv_aload_n hx hb dX6_executed_5 rfl (lv_at hl 0 rfl) ?_
  refine va_get (D := D) (ci := 6) (v := .ref (ad 84)) (C := RX6) (T := TX6) (N := 17) hx hb hts iX6 hown hK.1 hP 81 (gW_6 kd81) rfl 2 (by decide) f16 (fun _ h9 => h9) rfl dX6_executed_6 ?_
  refine lv_bipush (v := 52) hx hb dX6_executed_9 (by decide) ?_
  refine va_iald (i := 52) hx hb hK.1 hP 84 0 (gW_16 kd84) rfl (by unfold vp_in; decide) dX6_executed_11 ?_
  exact gRet_i hx hb hr hlocks hK hP hS (g_some2 hs) dX6_executed_12
set_option maxHeartbeats 4000000 in
set_option maxRecDepth 100000 in
theorem cX6_failed_c (l : Launch) (D : va_G) (cy : Nat → ClassId) (ad : Nat → Nat) (tL z0 : Nat) (hI : gI z0 ad) (v : gV) (u : Int64) (r0 : Int32) (v1 : gV) (hs : sX6_failed v = some (r0, v1)) : Met l yX6_failed wsX6_failed ({ frames := 0, cells := 0, slots := 0, locals := 0 } : Room) (gPc D cy ad tL z0 v u [.ref (ad 81)]) (gQi D cy ad tL z0 v1 u r0) 0 0 (gA z0) := by
  refine Met.ofW (cc := cX6_failed) (maxL := 1) (ret := (some .int)) (by decide) rfl ?_
  intro p e s m args below meth c s₁ B hml hv
  obtain ⟨rfl, hB0⟩ := hv
  have hP : va_P D vwCl (gW cy ad v u) s.heap := hB0.1
  have hK : gK D cy tL z0 s s.heap := hB0.2
  have hx := B.exec
  have hb := B.bytes
  have hr := B.returns
  have hts := atoms_spec (ws := wsX6_failed) B.pre
  have hown : s.vm.findClass RX6 = some m.cls := findClass_of_methodNamed B.named
  have hlocks := B.notSynchronized
  have hS : va_S (gA z0) s.heap s.heap [] := va_S.rf
  have hl := lv_entry ([.ref (ad 81)]) (n := 1) (Nat.le_of_ble_eq_true rfl)
  rw [lg_entry_eq]
  generalize (lg_sl ([.ref (ad 81)]) ++ List.replicate (1 - (lg_sl ([.ref (ad 81)])).length) Slot.unset).toArray = ls at hl ⊢
  have hl : lv_has ls 1 [(0, .ref (ad 81))] := hl
  have iX6 := (show ∀ w ∈ u_ws RX6 TX6 17, w ∈ wsX6_failed by decide +kernel)
  have f31 := hts (.fieldLink RX6 31 "AdventureParserModel" "thrown" "I") (by decide +kernel)
  have f16 := hts (.fieldLink RX6 16 "AdventureParserModel" "s" "[I") (by decide +kernel)
  clear hB0
  unfold sX6_failed at hs
  refine lv_aload_n hx hb dX6_failed_0 rfl (lv_at hl 0 rfl) ?_
  refine lv_iconst (v := 0) hx hb dX6_failed_1 (by decide) ?_
  refine va_put (D := D) (ci := 6) (v := .int 0) (ty := .int) (C := RX6) (T := TX6) (N := 17) hx hb hts iX6 tyX6 tyX6_ok nmX6 hown hK.1 hP (gD hI) hS 81 (gW_6 kd81) rfl 8 (by decide) f31 (fun _ h9 => h9) rfl (by decide +kernel) rfl rfl (Nat.le_of_ble_eq_true rfl) dX6_failed_2 (fun H locs hP _ hS => ?_)
  refine g_let hs (fun v_1 ev_1 hs => ?_)
  have hP : va_P D vwCl (gW cy ad v_1 u) H := gPset ((gS_6_8 kd81 0).trans (congrArg (fun z => gW cy ad z u) ev_1.symm)) hP
  refine lv_aload_n hx hb dX6_failed_5 rfl (lv_at hl 0 rfl) ?_
  refine va_get (D := D) (ci := 6) (v := .ref (ad 84)) (C := RX6) (T := TX6) (N := 17) hx hb hts iX6 hown hK.1 hP 81 (gW_6 kd81) rfl 2 (by decide) f16 (fun _ h9 => h9) rfl dX6_failed_6 ?_
  refine lv_bipush (v := 53) hx hb dX6_failed_9 (by decide) ?_
  refine va_iald (i := 53) hx hb hK.1 hP 84 0 (gW_16 kd84) rfl (by unfold vp_in; decide) dX6_failed_11 ?_
  exact gRet_i hx hb hr hlocks hK hP hS (g_some2 hs) dX6_failed_12
set_option maxHeartbeats 4000000 in
set_option maxRecDepth 100000 in
theorem cX6_asked_c (l : Launch) (D : va_G) (cy : Nat → ClassId) (ad : Nat → Nat) (tL z0 : Nat) (hI : gI z0 ad) (v : gV) (u : Int64) (r0 : Int32) (v1 : gV) (hs : sX6_asked v = some (r0, v1)) : Met l yX6_asked wsX6_asked ({ frames := 0, cells := 0, slots := 0, locals := 0 } : Room) (gPc D cy ad tL z0 v u [.ref (ad 81)]) (gQi D cy ad tL z0 v1 u r0) 0 0 (gA z0) := by
  refine Met.ofW (cc := cX6_asked) (maxL := 1) (ret := (some .int)) (by decide) rfl ?_
  intro p e s m args below meth c s₁ B hml hv
  obtain ⟨rfl, hB0⟩ := hv
  have hP : va_P D vwCl (gW cy ad v u) s.heap := hB0.1
  have hK : gK D cy tL z0 s s.heap := hB0.2
  have hx := B.exec
  have hb := B.bytes
  have hr := B.returns
  have hts := atoms_spec (ws := wsX6_asked) B.pre
  have hown : s.vm.findClass RX6 = some m.cls := findClass_of_methodNamed B.named
  have hlocks := B.notSynchronized
  have hS : va_S (gA z0) s.heap s.heap [] := va_S.rf
  have hl := lv_entry ([.ref (ad 81)]) (n := 1) (Nat.le_of_ble_eq_true rfl)
  rw [lg_entry_eq]
  generalize (lg_sl ([.ref (ad 81)]) ++ List.replicate (1 - (lg_sl ([.ref (ad 81)])).length) Slot.unset).toArray = ls at hl ⊢
  have hl : lv_has ls 1 [(0, .ref (ad 81))] := hl
  have iX6 := (show ∀ w ∈ u_ws RX6 TX6 17, w ∈ wsX6_asked by decide +kernel)
  have f31 := hts (.fieldLink RX6 31 "AdventureParserModel" "thrown" "I") (by decide +kernel)
  have f16 := hts (.fieldLink RX6 16 "AdventureParserModel" "s" "[I") (by decide +kernel)
  clear hB0
  unfold sX6_asked at hs
  refine lv_aload_n hx hb dX6_asked_0 rfl (lv_at hl 0 rfl) ?_
  refine lv_iconst (v := 0) hx hb dX6_asked_1 (by decide) ?_
  refine va_put (D := D) (ci := 6) (v := .int 0) (ty := .int) (C := RX6) (T := TX6) (N := 17) hx hb hts iX6 tyX6 tyX6_ok nmX6 hown hK.1 hP (gD hI) hS 81 (gW_6 kd81) rfl 8 (by decide) f31 (fun _ h9 => h9) rfl (by decide +kernel) rfl rfl (Nat.le_of_ble_eq_true rfl) dX6_asked_2 (fun H locs hP _ hS => ?_)
  refine g_let hs (fun v_1 ev_1 hs => ?_)
  have hP : va_P D vwCl (gW cy ad v_1 u) H := gPset ((gS_6_8 kd81 0).trans (congrArg (fun z => gW cy ad z u) ev_1.symm)) hP
  refine lv_aload_n hx hb dX6_asked_5 rfl (lv_at hl 0 rfl) ?_
  refine va_get (D := D) (ci := 6) (v := .ref (ad 84)) (C := RX6) (T := TX6) (N := 17) hx hb hts iX6 hown hK.1 hP 81 (gW_6 kd81) rfl 2 (by decide) f16 (fun _ h9 => h9) rfl dX6_asked_6 ?_
  refine lv_bipush (v := 54) hx hb dX6_asked_9 (by decide) ?_
  refine va_iald (i := 54) hx hb hK.1 hP 84 0 (gW_16 kd84) rfl (by unfold vp_in; decide) dX6_asked_11 ?_
  exact gRet_i hx hb hr hlocks hK hP hS (g_some2 hs) dX6_asked_12
set_option maxHeartbeats 4000000 in
set_option maxRecDepth 100000 in
theorem cX6_undo_c (l : Launch) (D : va_G) (cy : Nat → ClassId) (ad : Nat → Nat) (tL z0 : Nat) (hI : gI z0 ad) (n : Nat) (v : gV) (u : Int64) (r0 : Int32) (v1 : gV) (hs : sX6_undo n v = some (r0, v1)) : Met l yX6_undo wsX6_undo ({ frames := 1, cells := 0, slots := 0, locals := 21 } : Room) (gPc D cy ad tL z0 v u [.ref (ad 81)]) (gQi D cy ad tL z0 v1 u r0) 0 0 (gA z0) := by
  refine Met.ofW (cc := cX6_undo) (maxL := 2) (ret := (some .int)) (by decide) rfl ?_
  intro p e s m args below meth c s₁ B hml hv
  obtain ⟨rfl, hB0⟩ := hv
  have hP : va_P D vwCl (gW cy ad v u) s.heap := hB0.1
  have hK : gK D cy tL z0 s s.heap := hB0.2
  have hx := B.exec
  have hb := B.bytes
  have hr := B.returns
  have hts := atoms_spec (ws := wsX6_undo) B.pre
  have hown : s.vm.findClass RX6 = some m.cls := findClass_of_methodNamed B.named
  have hlocks := B.notSynchronized
  have hS : va_S (gA z0) s.heap s.heap [] := va_S.rf
  have hl := lv_entry ([.ref (ad 81)]) (n := 2) (Nat.le_of_ble_eq_true rfl)
  rw [lg_entry_eq]
  generalize (lg_sl ([.ref (ad 81)]) ++ List.replicate (2 - (lg_sl ([.ref (ad 81)])).length) Slot.unset).toArray = ls at hl ⊢
  have hl : lv_has ls 2 [(0, .ref (ad 81))] := hl
  have iX6 := (show ∀ w ∈ u_ws RX6 TX6 17, w ∈ wsX6_undo by decide +kernel)
  have f31 := hts (.fieldLink RX6 31 "AdventureParserModel" "thrown" "I") (by decide +kernel)
  have f35 := hts (.fieldLink RX6 35 "AdventureParserModel" "known" "I") (by decide +kernel)
  have f16 := hts (.fieldLink RX6 16 "AdventureParserModel" "s" "[I") (by decide +kernel)
  have f22 := hts (.fieldLink RX6 22 "AdventureParserModel" "before" "[I") (by decide +kernel)
  clear hB0
  have hL_30 : ∀ (k : Nat), ∀ (v : gV) (w1 : Int32) (H : Heap) (locs : List Loc) (ls : Array Slot), va_P D vwCl (gW cy ad v u) H → va_S (gA z0) s.heap H locs → lv_has ls 2 [(0, .ref (ad 81)), (1, .int w1)] → sX6_undo_30 n k v w1 = some (r0, v1) → W p l e (headSpec wsX6_undo ({ frames := 1, cells := 0, slots := 0, locals := 21 } : Room)).room s m ([.ref (ad 81)] : List Value).toArray below meth c H locs 0 0 (MQ below (gQi D cy ad tL z0 v1 u r0) ([.ref (ad 81)] : List Value).toArray s 0 0 (gA z0)) (F0 m 30 ls []) := by
    intro k
    induction k with
    | zero =>
      intro v w1 H locs ls hP hS hl hs
      exact g_none hs
    | succ k ih =>
      intro v w1 H locs ls hP hS hl hs
      rw [sX6_undo_30] at hs
      refine lv_iload_n hx hb dX6_undo_30 rfl (lv_at hl 1 rfl) ?_
      refine lv_bipush (v := 122) hx hb dX6_undo_31 (by decide) ?_
      refine lv_icmp_ge (tgt := 62) hx hb dX6_undo_33 (by decide) (fun hc => ?_) (fun hc => ?_)
      · have hs := g_t hs hc
        refine lv_aload_n hx hb dX6_undo_62 rfl (lv_at hl 0 rfl) ?_
        refine va_get (D := D) (ci := 6) (v := .int (v 81 5)) (C := RX6) (T := TX6) (N := 17) hx hb hts iX6 hown hK.1 hP 81 (gW_6 kd81) rfl 5 (by decide) f35 (fun _ h9 => h9) rfl dX6_undo_63 ?_
        exact gRet_i hx hb hr hlocks hK hP hS (g_some2 hs) dX6_undo_66
      · have hs := g_f hs hc
        refine lv_aload_n hx hb dX6_undo_36 rfl (lv_at hl 0 rfl) ?_
        refine va_get (D := D) (ci := 6) (v := .ref (ad 84)) (C := RX6) (T := TX6) (N := 17) hx hb hts iX6 hown hK.1 hP 81 (gW_6 kd81) rfl 2 (by decide) f16 (fun _ h9 => h9) rfl dX6_undo_37 ?_
        refine lv_iload_n hx hb dX6_undo_40 rfl (lv_at hl 1 rfl) ?_
        refine lv_aload_n hx hb dX6_undo_41 rfl (lv_at hl 0 rfl) ?_
        refine va_get (D := D) (ci := 6) (v := .ref (ad 86)) (C := RX6) (T := TX6) (N := 17) hx hb hts iX6 hown hK.1 hP 81 (gW_6 kd81) rfl 4 (by decide) f22 (fun _ h9 => h9) rfl dX6_undo_42 ?_
        refine lv_bipush (v := 122) hx hb dX6_undo_45 (by decide) ?_
        refine lv_aload_n hx hb dX6_undo_47 rfl (lv_at hl 0 rfl) ?_
        refine va_get (D := D) (ci := 6) (v := .int (v 81 5)) (C := RX6) (T := TX6) (N := 17) hx hb hts iX6 hown hK.1 hP 81 (gW_6 kd81) rfl 5 (by decide) f35 (fun _ h9 => h9) rfl dX6_undo_48 ?_
        refine lv_imul hx hb dX6_undo_51 ?_
        refine lv_iload_n hx hb dX6_undo_52 rfl (lv_at hl 1 rfl) ?_
        refine lv_iadd hx hb dX6_undo_53 ?_
        refine g_chk hs (fun hc hs => ?_)
        refine va_iald hx hb hK.1 hP 86 0 (gW_17 kd86) rfl hc dX6_undo_54 ?_
        refine g_chk hs (fun hc hs => ?_)
        refine va_iast hx hb hK.1 hP (gD hI) hS 84 0 (gW_16 kd84) rfl hc dX6_undo_55 (fun H locs hP _ hS => ?_)
        refine g_let hs (fun v_3 ev_3 hs => ?_)
        have hP : va_P D vwCl (gW cy ad v_3 u) H := gPset ((gS_16 kd84 w1.toNatClampNeg (v 86 ((122 * (v 81 5)) + w1).toNatClampNeg)).trans (congrArg (fun z => gW cy ad z u) ev_3.symm)) hP
        refine lv_iinc (v := w1 + 1) (lv' := [(1, .int (w1 + 1)), (0, .ref (ad 81))]) hx hb dX6_undo_56 hl (k := 1) rfl rfl (by decide) rfl (fun ls hl => ?_)
        refine lv_goto (tgt := 30) hx hb dX6_undo_59 (by decide) ?_
        exact ih v_3 (w1 + 1) _ _ _ hP hS (lv_sub hl [1, 0] rfl) hs
  unfold sX6_undo at hs
  refine lv_aload_n hx hb dX6_undo_0 rfl (lv_at hl 0 rfl) ?_
  refine lv_iconst (v := 0) hx hb dX6_undo_1 (by decide) ?_
  refine va_put (D := D) (ci := 6) (v := .int 0) (ty := .int) (C := RX6) (T := TX6) (N := 17) hx hb hts iX6 tyX6 tyX6_ok nmX6 hown hK.1 hP (gD hI) hS 81 (gW_6 kd81) rfl 8 (by decide) f31 (fun _ h9 => h9) rfl (by decide +kernel) rfl rfl (Nat.le_of_ble_eq_true rfl) dX6_undo_2 (fun H locs hP _ hS => ?_)
  refine g_let hs (fun v_1 ev_1 hs => ?_)
  have hP : va_P D vwCl (gW cy ad v_1 u) H := gPset ((gS_6_8 kd81 0).trans (congrArg (fun z => gW cy ad z u) ev_1.symm)) hP
  refine lv_aload_n hx hb dX6_undo_5 rfl (lv_at hl 0 rfl) ?_
  refine va_get (D := D) (ci := 6) (v := .int (v_1 81 5)) (C := RX6) (T := TX6) (N := 17) hx hb hts iX6 hown hK.1 hP 81 (gW_6 kd81) rfl 5 (by decide) f35 (fun _ h9 => h9) rfl dX6_undo_6 ?_
  refine lv_if_ne (tgt := 18) hx hb dX6_undo_9 (by decide) (fun hc => ?_) (fun hc => ?_)
  · have hs := g_f hs hc
    refine lv_aload_n hx hb dX6_undo_18 rfl (lv_at hl 0 rfl) ?_
    refine lv_dup hx hb dX6_undo_19 rfl ?_
    refine va_get (D := D) (ci := 6) (v := .int (v_1 81 5)) (C := RX6) (T := TX6) (N := 17) hx hb hts iX6 hown hK.1 hP 81 (gW_6 kd81) rfl 5 (by decide) f35 (fun _ h9 => h9) rfl dX6_undo_20 ?_
    refine lv_iconst (v := 1) hx hb dX6_undo_23 (by decide) ?_
    refine lv_isub hx hb dX6_undo_24 ?_
    refine va_put (D := D) (ci := 6) (v := .int ((v_1 81 5) - 1)) (ty := .int) (C := RX6) (T := TX6) (N := 17) hx hb hts iX6 tyX6 tyX6_ok nmX6 hown hK.1 hP (gD hI) hS 81 (gW_6 kd81) rfl 5 (by decide) f35 (fun _ h9 => h9) rfl (by decide +kernel) rfl rfl (Nat.le_of_ble_eq_true rfl) dX6_undo_25 (fun H locs hP _ hS => ?_)
    refine g_let hs (fun v_2 ev_2 hs => ?_)
    have hP : va_P D vwCl (gW cy ad v_2 u) H := gPset ((gS_6_5 kd81 ((v_1 81 5) - 1)).trans (congrArg (fun z => gW cy ad z u) ev_2.symm)) hP
    refine lv_iconst (v := 0) hx hb dX6_undo_28 (by decide) ?_
    refine lv_istore_n (lv' := [(1, .int 0), (0, .ref (ad 81))]) hx hb dX6_undo_29 rfl hl (by decide) rfl (fun ls hl => ?_)
    exact hL_30 n v_2 0 _ _ _ hP hS (lv_sub hl [1, 0] rfl) hs
  · have hs := g_t hs hc
    refine lv_aload_n hx hb dX6_undo_12 rfl (lv_at hl 0 rfl) ?_
    refine lv_iconst (v := 1) hx hb dX6_undo_13 (by decide) ?_
    refine g_bind hs (fun q_4 hq_4 hs => ?_)
    refine gCV_i (As := [.int 1]) (rest := []) ⟨hx, hb, hml, hown, hts⟩ (cX6_throwing_c l D cy ad tL z0 hI v_1 u 1 q_4.1 q_4.2 hq_4) (cwV 1 hts gX6_undo_X6_throwing rfl rfl rfl (by decide +kernel) ⟨Nat.le_of_ble_eq_true rfl, Nat.le_of_ble_eq_true rfl⟩) hK hP hS (va_recv hK.1 hP (ci := 6) (q0 := 81) rfl (gW_6 kd81)) hl.1 rfl rfl (Nat.le_of_ble_eq_true rfl) dX6_undo_14 ⟨Nat.zero_le _, Nat.zero_le _⟩ (fun H locs hP hS => ?_)
    exact gRet_i hx hb hr hlocks hK hP hS (g_some2 hs) dX6_undo_17
set_option maxHeartbeats 4000000 in
set_option maxRecDepth 100000 in
theorem cX6_savedStates_c (l : Launch) (D : va_G) (cy : Nat → ClassId) (ad : Nat → Nat) (tL z0 : Nat) (hI : gI z0 ad) (v : gV) (u : Int64) (r0 : Int32) (v1 : gV) (hs : sX6_savedStates v = some (r0, v1)) : Met l yX6_savedStates wsX6_savedStates ({ frames := 0, cells := 0, slots := 0, locals := 0 } : Room) (gPc D cy ad tL z0 v u [.ref (ad 81)]) (gQi D cy ad tL z0 v1 u r0) 0 0 (gA z0) := by
  refine Met.ofW (cc := cX6_savedStates) (maxL := 1) (ret := (some .int)) (by decide) rfl ?_
  intro p e s m args below meth c s₁ B hml hv
  obtain ⟨rfl, hB0⟩ := hv
  have hP : va_P D vwCl (gW cy ad v u) s.heap := hB0.1
  have hK : gK D cy tL z0 s s.heap := hB0.2
  have hx := B.exec
  have hb := B.bytes
  have hr := B.returns
  have hts := atoms_spec (ws := wsX6_savedStates) B.pre
  have hown : s.vm.findClass RX6 = some m.cls := findClass_of_methodNamed B.named
  have hlocks := B.notSynchronized
  have hS : va_S (gA z0) s.heap s.heap [] := va_S.rf
  have hl := lv_entry ([.ref (ad 81)]) (n := 1) (Nat.le_of_ble_eq_true rfl)
  rw [lg_entry_eq]
  generalize (lg_sl ([.ref (ad 81)]) ++ List.replicate (1 - (lg_sl ([.ref (ad 81)])).length) Slot.unset).toArray = ls at hl ⊢
  have hl : lv_has ls 1 [(0, .ref (ad 81))] := hl
  have iX6 := (show ∀ w ∈ u_ws RX6 TX6 17, w ∈ wsX6_savedStates by decide +kernel)
  have f31 := hts (.fieldLink RX6 31 "AdventureParserModel" "thrown" "I") (by decide +kernel)
  have f35 := hts (.fieldLink RX6 35 "AdventureParserModel" "known" "I") (by decide +kernel)
  clear hB0
  unfold sX6_savedStates at hs
  refine lv_aload_n hx hb dX6_savedStates_0 rfl (lv_at hl 0 rfl) ?_
  refine lv_iconst (v := 0) hx hb dX6_savedStates_1 (by decide) ?_
  refine va_put (D := D) (ci := 6) (v := .int 0) (ty := .int) (C := RX6) (T := TX6) (N := 17) hx hb hts iX6 tyX6 tyX6_ok nmX6 hown hK.1 hP (gD hI) hS 81 (gW_6 kd81) rfl 8 (by decide) f31 (fun _ h9 => h9) rfl (by decide +kernel) rfl rfl (Nat.le_of_ble_eq_true rfl) dX6_savedStates_2 (fun H locs hP _ hS => ?_)
  refine g_let hs (fun v_1 ev_1 hs => ?_)
  have hP : va_P D vwCl (gW cy ad v_1 u) H := gPset ((gS_6_8 kd81 0).trans (congrArg (fun z => gW cy ad z u) ev_1.symm)) hP
  refine lv_aload_n hx hb dX6_savedStates_5 rfl (lv_at hl 0 rfl) ?_
  refine va_get (D := D) (ci := 6) (v := .int (v_1 81 5)) (C := RX6) (T := TX6) (N := 17) hx hb hts iX6 hown hK.1 hP 81 (gW_6 kd81) rfl 5 (by decide) f35 (fun _ h9 => h9) rfl dX6_savedStates_6 ?_
  exact gRet_i hx hb hr hlocks hK hP hS (g_some2 hs) dX6_savedStates_9
set_option maxHeartbeats 4000000 in
set_option maxRecDepth 100000 in
theorem cX6_digest_c (l : Launch) (D : va_G) (cy : Nat → ClassId) (ad : Nat → Nat) (tL z0 : Nat) (hI : gI z0 ad) (n : Nat) (v : gV) (u : Int64) (r0 : Int64) (v1 : gV) (hs : sX6_digest n v = some (r0, v1)) : Met l yX6_digest wsX6_digest ({ frames := 5, cells := 0, slots := 0, locals := 110 } : Room) (gPc D cy ad tL z0 v u [.ref (ad 81)]) (gQl D cy ad tL z0 v1 u r0) 0 0 (gA z0) := by
  refine Met.ofW (cc := cX6_digest) (maxL := 4) (ret := (some .long)) (by decide) rfl ?_
  intro p e s m args below meth c s₁ B hml hv
  obtain ⟨rfl, hB0⟩ := hv
  have hP : va_P D vwCl (gW cy ad v u) s.heap := hB0.1
  have hK : gK D cy tL z0 s s.heap := hB0.2
  have hx := B.exec
  have hb := B.bytes
  have hr := B.returns
  have hts := atoms_spec (ws := wsX6_digest) B.pre
  have hown : s.vm.findClass RX6 = some m.cls := findClass_of_methodNamed B.named
  have hlocks := B.notSynchronized
  have hS : va_S (gA z0) s.heap s.heap [] := va_S.rf
  have hl := lv_entry ([.ref (ad 81)]) (n := 4) (Nat.le_of_ble_eq_true rfl)
  rw [lg_entry_eq]
  generalize (lg_sl ([.ref (ad 81)]) ++ List.replicate (4 - (lg_sl ([.ref (ad 81)])).length) Slot.unset).toArray = ls at hl ⊢
  have hl : lv_has ls 4 [(0, .ref (ad 81))] := hl
  have iX6 := (show ∀ w ∈ u_ws RX6 TX6 17, w ∈ wsX6_digest by decide +kernel)
  have f31 := hts (.fieldLink RX6 31 "AdventureParserModel" "thrown" "I") (by decide +kernel)
  have k210 := hts (.constantLong RX6 210 (8144)) (by decide +kernel)
  have k212 := hts (.constantLong RX6 212 (31)) (by decide +kernel)
  have f16 := hts (.fieldLink RX6 16 "AdventureParserModel" "s" "[I") (by decide +kernel)
  clear hB0
  have hL_132 : ∀ (k : Nat), ∀ (v : gV) (w1 : Int64) (w3 : Int32) (H : Heap) (locs : List Loc) (ls : Array Slot), va_P D vwCl (gW cy ad v u) H → va_S (gA z0) s.heap H locs → lv_has ls 4 [(0, .ref (ad 81)), (1, .long w1), (3, .int w3)] → sX6_digest_132 n k v w1 w3 = some (r0, v1) → W p l e (headSpec wsX6_digest ({ frames := 5, cells := 0, slots := 0, locals := 110 } : Room)).room s m ([.ref (ad 81)] : List Value).toArray below meth c H locs 0 0 (MQ below (gQl D cy ad tL z0 v1 u r0) ([.ref (ad 81)] : List Value).toArray s 0 0 (gA z0)) (F0 m 132 ls []) := by
    intro k
    induction k with
    | zero =>
      intro v w1 w3 H locs ls hP hS hl hs
      exact g_none hs
    | succ k ih =>
      intro v w1 w3 H locs ls hP hS hl hs
      rw [sX6_digest_132] at hs
      refine lv_iload_n hx hb dX6_digest_132 rfl (lv_at hl 2 rfl) ?_
      refine lv_iconst (v := 5) hx hb dX6_digest_133 (by decide) ?_
      refine lv_icmp_ge (tgt := 156) hx hb dX6_digest_134 (by decide) (fun hc => ?_) (fun hc => ?_)
      · have hs := g_t hs hc
        refine lv_lload_n hx hb dX6_digest_156 rfl (lv_at hl 1 rfl) ?_
        exact gRet_l hx hb hr hlocks hK hP hS (g_some2 hs) dX6_digest_157
      · have hs := g_f hs hc
        refine lv_ldc2 hx hb hown k212 dX6_digest_137 ?_
        refine lv_lload_n hx hb dX6_digest_140 rfl (lv_at hl 1 rfl) ?_
        refine lv_lmul hx hb dX6_digest_141 ?_
        refine lv_aload_n hx hb dX6_digest_142 rfl (lv_at hl 0 rfl) ?_
        refine lv_iload_n hx hb dX6_digest_143 rfl (lv_at hl 2 rfl) ?_
        refine g_bind hs (fun q_4 hq_4 hs => ?_)
        refine gCV_i (As := [.int w3]) (rest := [.long (31 * w1)]) ⟨hx, hb, hml, hown, hts⟩ (cX6_suitableOnes_c l D cy ad tL z0 hI n v u w3 q_4 hq_4) (cwV 1 hts gX6_digest_X6_suitableOnes rfl rfl rfl (by decide +kernel) ⟨Nat.le_of_ble_eq_true rfl, Nat.le_of_ble_eq_true rfl⟩) hK hP hS (va_recv hK.1 hP (ci := 6) (q0 := 81) rfl (gW_6 kd81)) hl.1 rfl rfl (Nat.le_of_ble_eq_true rfl) dX6_digest_144 ⟨Nat.zero_le _, Nat.zero_le _⟩ (fun H locs hP hS => ?_)
        refine lv_i2l hx hb dX6_digest_147 rfl ?_
        refine lv_ladd hx hb dX6_digest_148 ?_
        refine lv_lstore_n (lv' := [(1, .long ((31 * w1) + q_4.toInt64)), (0, .ref (ad 81)), (3, .int w3)]) hx hb dX6_digest_149 rfl hl (by decide) rfl (fun ls hl => ?_)
        refine lv_iinc (v := w3 + 1) (lv' := [(3, .int (w3 + 1)), (1, .long ((31 * w1) + q_4.toInt64)), (0, .ref (ad 81))]) hx hb dX6_digest_150 hl (k := 2) rfl rfl (by decide) rfl (fun ls hl => ?_)
        refine lv_goto (tgt := 132) hx hb dX6_digest_153 (by decide) ?_
        exact ih v ((31 * w1) + q_4.toInt64) (w3 + 1) _ _ _ hP hS (lv_sub hl [2, 1, 0] rfl) hs
  have hL_96 : ∀ (k : Nat), ∀ (v : gV) (w1 : Int64) (w3 : Int32) (H : Heap) (locs : List Loc) (ls : Array Slot), va_P D vwCl (gW cy ad v u) H → va_S (gA z0) s.heap H locs → lv_has ls 4 [(0, .ref (ad 81)), (1, .long w1), (3, .int w3)] → sX6_digest_96 n k v w1 w3 = some (r0, v1) → W p l e (headSpec wsX6_digest ({ frames := 5, cells := 0, slots := 0, locals := 110 } : Room)).room s m ([.ref (ad 81)] : List Value).toArray below meth c H locs 0 0 (MQ below (gQl D cy ad tL z0 v1 u r0) ([.ref (ad 81)] : List Value).toArray s 0 0 (gA z0)) (F0 m 96 ls []) := by
    intro k
    induction k with
    | zero =>
      intro v w1 w3 H locs ls hP hS hl hs
      exact g_none hs
    | succ k ih =>
      intro v w1 w3 H locs ls hP hS hl hs
      rw [sX6_digest_96] at hs
      refine lv_iload_n hx hb dX6_digest_96 rfl (lv_at hl 2 rfl) ?_
      refine lv_iconst (v := 4) hx hb dX6_digest_97 (by decide) ?_
      refine lv_aload_n hx hb dX6_digest_98 rfl (lv_at hl 0 rfl) ?_
      refine va_get (D := D) (ci := 6) (v := .ref (ad 84)) (C := RX6) (T := TX6) (N := 17) hx hb hts iX6 hown hK.1 hP 81 (gW_6 kd81) rfl 2 (by decide) f16 (fun _ h9 => h9) rfl dX6_digest_99 ?_
      refine lv_iconst (v := 0) hx hb dX6_digest_102 (by decide) ?_
      refine va_iald (i := 0) hx hb hK.1 hP 84 0 (gW_16 kd84) rfl (by unfold vp_in; decide) dX6_digest_103 ?_
      refine lv_imul hx hb dX6_digest_104 ?_
      refine lv_icmp_ge (tgt := 130) hx hb dX6_digest_105 (by decide) (fun hc => ?_) (fun hc => ?_)
      · have hs := g_t hs hc
        refine lv_iconst (v := 0) hx hb dX6_digest_130 (by decide) ?_
        refine lv_istore_n (lv' := [(3, .int 0), (0, .ref (ad 81)), (1, .long w1)]) hx hb dX6_digest_131 rfl hl (by decide) rfl (fun ls hl => ?_)
        exact hL_132 n v w1 0 _ _ _ hP hS (lv_sub hl [1, 2, 0] rfl) hs
      · have hs := g_f hs hc
        refine lv_ldc2 hx hb hown k212 dX6_digest_108 ?_
        refine lv_lload_n hx hb dX6_digest_111 rfl (lv_at hl 1 rfl) ?_
        refine lv_lmul hx hb dX6_digest_112 ?_
        refine lv_aload_n hx hb dX6_digest_113 rfl (lv_at hl 0 rfl) ?_
        refine va_get (D := D) (ci := 6) (v := .ref (ad 84)) (C := RX6) (T := TX6) (N := 17) hx hb hts iX6 hown hK.1 hP 81 (gW_6 kd81) rfl 2 (by decide) f16 (fun _ h9 => h9) rfl dX6_digest_114 ?_
        refine lv_iconst (v := 1) hx hb dX6_digest_117 (by decide) ?_
        refine lv_iload_n hx hb dX6_digest_118 rfl (lv_at hl 2 rfl) ?_
        refine lv_iadd hx hb dX6_digest_119 ?_
        refine g_chk hs (fun hc hs => ?_)
        refine va_iald hx hb hK.1 hP 84 0 (gW_16 kd84) rfl hc dX6_digest_120 ?_
        refine lv_i2l hx hb dX6_digest_121 rfl ?_
        refine lv_ladd hx hb dX6_digest_122 ?_
        refine lv_lstore_n (lv' := [(1, .long ((31 * w1) + ((v 84 (1 + w3).toNatClampNeg).toInt64))), (0, .ref (ad 81)), (3, .int w3)]) hx hb dX6_digest_123 rfl hl (by decide) rfl (fun ls hl => ?_)
        refine lv_iinc (v := w3 + 1) (lv' := [(3, .int (w3 + 1)), (1, .long ((31 * w1) + ((v 84 (1 + w3).toNatClampNeg).toInt64))), (0, .ref (ad 81))]) hx hb dX6_digest_124 hl (k := 2) rfl rfl (by decide) rfl (fun ls hl => ?_)
        refine lv_goto (tgt := 96) hx hb dX6_digest_127 (by decide) ?_
        exact ih v ((31 * w1) + ((v 84 (1 + w3).toNatClampNeg).toInt64)) (w3 + 1) _ _ _ hP hS (lv_sub hl [2, 1, 0] rfl) hs
  have hL_68 : ∀ (k : Nat), ∀ (v : gV) (w1 : Int64) (w3 : Int32) (H : Heap) (locs : List Loc) (ls : Array Slot), va_P D vwCl (gW cy ad v u) H → va_S (gA z0) s.heap H locs → lv_has ls 4 [(0, .ref (ad 81)), (1, .long w1), (3, .int w3)] → sX6_digest_68 n k v w1 w3 = some (r0, v1) → W p l e (headSpec wsX6_digest ({ frames := 5, cells := 0, slots := 0, locals := 110 } : Room)).room s m ([.ref (ad 81)] : List Value).toArray below meth c H locs 0 0 (MQ below (gQl D cy ad tL z0 v1 u r0) ([.ref (ad 81)] : List Value).toArray s 0 0 (gA z0)) (F0 m 68 ls []) := by
    intro k
    induction k with
    | zero =>
      intro v w1 w3 H locs ls hP hS hl hs
      exact g_none hs
    | succ k ih =>
      intro v w1 w3 H locs ls hP hS hl hs
      rw [sX6_digest_68] at hs
      refine lv_iload_n hx hb dX6_digest_68 rfl (lv_at hl 2 rfl) ?_
      refine lv_bipush (v := 54) hx hb dX6_digest_69 (by decide) ?_
      refine lv_icmp_gt (tgt := 94) hx hb dX6_digest_71 (by decide) (fun hc => ?_) (fun hc => ?_)
      · have hs := g_t hs hc
        refine lv_iconst (v := 0) hx hb dX6_digest_94 (by decide) ?_
        refine lv_istore_n (lv' := [(3, .int 0), (0, .ref (ad 81)), (1, .long w1)]) hx hb dX6_digest_95 rfl hl (by decide) rfl (fun ls hl => ?_)
        exact hL_96 n v w1 0 _ _ _ hP hS (lv_sub hl [1, 2, 0] rfl) hs
      · have hs := g_f hs hc
        refine lv_ldc2 hx hb hown k212 dX6_digest_74 ?_
        refine lv_lload_n hx hb dX6_digest_77 rfl (lv_at hl 1 rfl) ?_
        refine lv_lmul hx hb dX6_digest_78 ?_
        refine lv_aload_n hx hb dX6_digest_79 rfl (lv_at hl 0 rfl) ?_
        refine va_get (D := D) (ci := 6) (v := .ref (ad 84)) (C := RX6) (T := TX6) (N := 17) hx hb hts iX6 hown hK.1 hP 81 (gW_6 kd81) rfl 2 (by decide) f16 (fun _ h9 => h9) rfl dX6_digest_80 ?_
        refine lv_iload_n hx hb dX6_digest_83 rfl (lv_at hl 2 rfl) ?_
        refine g_chk hs (fun hc hs => ?_)
        refine va_iald hx hb hK.1 hP 84 0 (gW_16 kd84) rfl hc dX6_digest_84 ?_
        refine lv_i2l hx hb dX6_digest_85 rfl ?_
        refine lv_ladd hx hb dX6_digest_86 ?_
        refine lv_lstore_n (lv' := [(1, .long ((31 * w1) + ((v 84 w3.toNatClampNeg).toInt64))), (0, .ref (ad 81)), (3, .int w3)]) hx hb dX6_digest_87 rfl hl (by decide) rfl (fun ls hl => ?_)
        refine lv_iinc (v := w3 + 1) (lv' := [(3, .int (w3 + 1)), (1, .long ((31 * w1) + ((v 84 w3.toNatClampNeg).toInt64))), (0, .ref (ad 81))]) hx hb dX6_digest_88 hl (k := 2) rfl rfl (by decide) rfl (fun ls hl => ?_)
        refine lv_goto (tgt := 68) hx hb dX6_digest_91 (by decide) ?_
        exact ih v ((31 * w1) + ((v 84 w3.toNatClampNeg).toInt64)) (w3 + 1) _ _ _ hP hS (lv_sub hl [2, 1, 0] rfl) hs
  unfold sX6_digest at hs
  refine lv_aload_n hx hb dX6_digest_0 rfl (lv_at hl 0 rfl) ?_
  refine lv_iconst (v := 0) hx hb dX6_digest_1 (by decide) ?_
  refine va_put (D := D) (ci := 6) (v := .int 0) (ty := .int) (C := RX6) (T := TX6) (N := 17) hx hb hts iX6 tyX6 tyX6_ok nmX6 hown hK.1 hP (gD hI) hS 81 (gW_6 kd81) rfl 8 (by decide) f31 (fun _ h9 => h9) rfl (by decide +kernel) rfl rfl (Nat.le_of_ble_eq_true rfl) dX6_digest_2 (fun H locs hP _ hS => ?_)
  refine g_let hs (fun v_1 ev_1 hs => ?_)
  have hP : va_P D vwCl (gW cy ad v_1 u) H := gPset ((gS_6_8 kd81 0).trans (congrArg (fun z => gW cy ad z u) ev_1.symm)) hP
  refine lv_ldc2 hx hb hown k210 dX6_digest_5 ?_
  refine lv_lstore_n (lv' := [(1, .long 8144), (0, .ref (ad 81))]) hx hb dX6_digest_8 rfl hl (by decide) rfl (fun ls hl => ?_)
  refine lv_ldc2 hx hb hown k212 dX6_digest_9 ?_
  refine lv_lload_n hx hb dX6_digest_12 rfl (lv_at hl 0 rfl) ?_
  refine lv_lmul hx hb dX6_digest_13 ?_
  refine lv_aload_n hx hb dX6_digest_14 rfl (lv_at hl 1 rfl) ?_
  refine va_get (D := D) (ci := 6) (v := .ref (ad 84)) (C := RX6) (T := TX6) (N := 17) hx hb hts iX6 hown hK.1 hP 81 (gW_6 kd81) rfl 2 (by decide) f16 (fun _ h9 => h9) rfl dX6_digest_15 ?_
  refine lv_iconst (v := 0) hx hb dX6_digest_18 (by decide) ?_
  refine va_iald (i := 0) hx hb hK.1 hP 84 0 (gW_16 kd84) rfl (by unfold vp_in; decide) dX6_digest_19 ?_
  refine lv_i2l hx hb dX6_digest_20 rfl ?_
  refine lv_ladd hx hb dX6_digest_21 ?_
  refine lv_lstore_n (lv' := [(1, .long ((31 * 8144) + ((v_1 84 0).toInt64))), (0, .ref (ad 81))]) hx hb dX6_digest_22 rfl hl (by decide) rfl (fun ls hl => ?_)
  refine lv_ldc2 hx hb hown k212 dX6_digest_23 ?_
  refine lv_lload_n hx hb dX6_digest_26 rfl (lv_at hl 0 rfl) ?_
  refine lv_lmul hx hb dX6_digest_27 ?_
  refine lv_aload_n hx hb dX6_digest_28 rfl (lv_at hl 1 rfl) ?_
  refine va_get (D := D) (ci := 6) (v := .ref (ad 84)) (C := RX6) (T := TX6) (N := 17) hx hb hts iX6 hown hK.1 hP 81 (gW_6 kd81) rfl 2 (by decide) f16 (fun _ h9 => h9) rfl dX6_digest_29 ?_
  refine lv_bipush (v := 49) hx hb dX6_digest_32 (by decide) ?_
  refine va_iald (i := 49) hx hb hK.1 hP 84 0 (gW_16 kd84) rfl (by unfold vp_in; decide) dX6_digest_34 ?_
  refine lv_i2l hx hb dX6_digest_35 rfl ?_
  refine lv_ladd hx hb dX6_digest_36 ?_
  refine lv_lstore_n (lv' := [(1, .long ((31 * ((31 * 8144) + ((v_1 84 0).toInt64))) + ((v_1 84 49).toInt64))), (0, .ref (ad 81))]) hx hb dX6_digest_37 rfl hl (by decide) rfl (fun ls hl => ?_)
  refine lv_ldc2 hx hb hown k212 dX6_digest_38 ?_
  refine lv_lload_n hx hb dX6_digest_41 rfl (lv_at hl 0 rfl) ?_
  refine lv_lmul hx hb dX6_digest_42 ?_
  refine lv_topl (fun y_2 ey_2 => ?_)
  have hs := g_letE hs ey_2
  refine lv_aload_n hx hb dX6_digest_43 rfl (lv_at hl 1 rfl) ?_
  refine g_bind hs (fun q_3 hq_3 hs => ?_)
  refine gCV_i (As := []) (rest := [.long y_2]) ⟨hx, hb, hml, hown, hts⟩ (cX6_visibleOnes_c l D cy ad tL z0 hI n v_1 u q_3 hq_3) (cwV 0 hts gX6_digest_X6_visibleOnes rfl rfl rfl (by decide +kernel) ⟨Nat.le_of_ble_eq_true rfl, Nat.le_of_ble_eq_true rfl⟩) hK hP hS (va_recv hK.1 hP (ci := 6) (q0 := 81) rfl (gW_6 kd81)) hl.1 rfl rfl (Nat.le_of_ble_eq_true rfl) dX6_digest_44 ⟨Nat.zero_le _, Nat.zero_le _⟩ (fun H locs hP hS => ?_)
  refine lv_i2l hx hb dX6_digest_47 rfl ?_
  refine lv_ladd hx hb dX6_digest_48 ?_
  refine lv_lstore_n (lv' := [(1, .long (y_2 + q_3.toInt64)), (0, .ref (ad 81))]) hx hb dX6_digest_49 rfl hl (by decide) rfl (fun ls hl => ?_)
  refine lv_ldc2 hx hb hown k212 dX6_digest_50 ?_
  refine lv_lload_n hx hb dX6_digest_53 rfl (lv_at hl 0 rfl) ?_
  refine lv_lmul hx hb dX6_digest_54 ?_
  refine lv_aload_n hx hb dX6_digest_55 rfl (lv_at hl 1 rfl) ?_
  refine va_get (D := D) (ci := 6) (v := .ref (ad 84)) (C := RX6) (T := TX6) (N := 17) hx hb hts iX6 hown hK.1 hP 81 (gW_6 kd81) rfl 2 (by decide) f16 (fun _ h9 => h9) rfl dX6_digest_56 ?_
  refine lv_bipush (v := 57) hx hb dX6_digest_59 (by decide) ?_
  refine va_iald (i := 57) hx hb hK.1 hP 84 0 (gW_16 kd84) rfl (by unfold vp_in; decide) dX6_digest_61 ?_
  refine lv_i2l hx hb dX6_digest_62 rfl ?_
  refine lv_ladd hx hb dX6_digest_63 ?_
  refine lv_lstore_n (lv' := [(1, .long ((31 * (y_2 + q_3.toInt64)) + ((v_1 84 57).toInt64))), (0, .ref (ad 81))]) hx hb dX6_digest_64 rfl hl (by decide) rfl (fun ls hl => ?_)
  refine lv_bipush (v := 50) hx hb dX6_digest_65 (by decide) ?_
  refine lv_istore_n (lv' := [(3, .int 50), (1, .long ((31 * (y_2 + q_3.toInt64)) + ((v_1 84 57).toInt64))), (0, .ref (ad 81))]) hx hb dX6_digest_67 rfl hl (by decide) rfl (fun ls hl => ?_)
  exact hL_68 n v_1 ((31 * (y_2 + q_3.toInt64)) + ((v_1 84 57).toInt64)) 50 _ _ _ hP hS (lv_sub hl [2, 1, 0] rfl) hs
