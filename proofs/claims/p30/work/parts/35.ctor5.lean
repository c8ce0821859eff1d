def gTabL : List Int32 := [108, 97, 109, 112, 98, 111, 120, 107, 101, 121, 99, 111, 105, 110, 98, 97, 108, 108, 98, 97, 103, 114, 101, 100, 98, 108, 117, 101, 111, 108, 100, 98, 105, 103, 116, 97, 107, 101, 100, 114, 111, 112, 112, 117, 116, 111, 112, 101, 110, 99, 108, 111, 115, 101, 101, 97, 115, 116, 119, 101, 115, 116, 97, 108, 108, 98, 117, 116, 97, 110, 100, 105, 110, 116, 104, 101, 105, 116, 116, 104, 101, 109, 111, 110, 101]
def gTabB : List Int32 := [0, 4, 7, 10, 14, 18, 21, 24, 28, 31, 34, 38, 42, 45, 49, 54, 58, 62, 65, 68, 71, 73, 76, 78, 82, 85]
def iv : gV := fun k => if kd k = 1 then rC 0 else if kd k = 3 then rS 0 else fun _ => 0
theorem g_addr {A : Nat → Prop} {ws : va_W} {q : Nat → Nat} {n : Nat} (hD : va_D A ws) (h : ∀ k, k < n → ∃ e, ws[k]? = some (q k, e)) : (∀ i j, i < n → j < n → q i = q j → i = j) ∧ ∀ k, k < n → A (q k) := by
  refine ⟨fun i j hi hj e => ?_, fun k hk => ?_⟩
  · obtain ⟨e1, h1⟩ := h i hi
    obtain ⟨e2, h2⟩ := h j hj
    exact hD.1 i j _ _ h1 h2 e
  · obtain ⟨e1, h1⟩ := h k hk
    exact hD.2 k _ h1
theorem g_arr {cA : ClassId} {n : Nat} {f f2 : Nat → Option Nat} (h : ∀ j, j < n → f j = f2 j) : vp_cell cA (n, .inr (.inr (.inr (.inr f)))) = vp_cell cA (n, .inr (.inr (.inr (.inr f2)))) := by
  rw [vp_cell_q, vp_cell_q]
  unfold arrV
  congr 1
  apply Array.ext
  · simp
  · intro i h1 h2
    simp only [Array.getElem_ofFn]
    rw [h i (by simpa using h1)]
abbrev gQ5 (D : va_G) (cy : Nat → ClassId) (h0 sz : Nat) : Array Value → State → Outcome → State → Prop := va_Qv (fun _ : Nat → Nat => True) (fun q t => q 0 = h0 ∧ (∀ k, k < 81 → va_at D vwCl (q k, gEr cy q 0 k (iv k) (kd k)) t.heap) ∧ (∀ i j, i < 81 → j < 81 → q i = q j → i = j) ∧ ∀ k, k < 81 → gF h0 sz (q k)) (gF h0 sz)
set_option maxHeartbeats 8000000 in
set_option maxRecDepth 100000 in
theorem cX5_init_c (l : Launch) (D : va_G) (cy : Nat → ClassId) (tL z0 h0 sz : Nat) (hz : z0 ≤ h0 ∧ z0 ≤ sz) : Met l yX5_init wsX5_init ({ frames := 3, cells := 80, slots := 767, locals := 52 } : Room) (gPi D cy tL z0 h0 sz (.inr (5, [.null, .null, .null, .null, .null, .int 0, .int 0]))) (gQ5 D cy h0 sz) 80 767 (gF h0 sz) := by
  refine Met.ofW (cc := cX5_init) (maxL := 2) (ret := none) (by decide) rfl ?_
  intro p e s m args below meth c s₁ B hml hv
  obtain ⟨rfl, hsz, hP, hK⟩ := hv
  have hx := B.exec
  have hb := B.bytes
  have hr := B.returns
  have hts := atoms_spec (ws := wsX5_init) B.pre
  have hown : s.vm.findClass RX5 = some m.cls := findClass_of_methodNamed B.named
  have hlocks := B.notSynchronized
  have hin : meth.name = "<init>" := (name_of_methodNamed B.named B.method).1
  subst hsz
  have hD : va_D (gF h0 s.heap.size) [(h0, .inr (5, [.null, .null, .null, .null, .null, .int 0, .int 0]))] := gD1
  have hA : ∀ q : Nat, s.heap.size ≤ q → gF h0 s.heap.size q := fun q h => Or.inr h
  have hS : va_S (gF h0 s.heap.size) s.heap s.heap [] := va_S.rf
  have hsub : ∀ a, gF h0 s.heap.size a → gA z0 a := fun a h => h.elim (fun q => by rw [q]; exact hz.1) (fun q => Nat.le_trans hz.2 q)
  have hP : va_P D vwCl [(h0, .inr (5, [.null, .null, .null, .null, .null, .int 0, .int 0]))] s.heap := hP
  have hin9 : ∀ w ∈ u_ws RX5 TX5 7, w ∈ wsX5_init := by decide +kernel
  have hl := lv_entry ([.ref h0]) (n := 2) (Nat.le_of_ble_eq_true rfl)
  rw [lg_entry_eq]
  generalize (lg_sl ([.ref h0]) ++ List.replicate (2 - (lg_sl ([.ref h0])).length) Slot.unset).toArray = ls at hl ⊢
  have hl : lv_has ls 2 [(0, .ref h0)] := hl
  refine lv_aload_n hx hb dX5_init_0 rfl (lv_at hl 0 rfl) ?_
  refine W.objInit hx hb hown (hts (.methodLink RX5 3 objectInit) (by decide +kernel)) (hts (.instanceMethod objectInit) (by decide +kernel)) (hts (.code objectInit ⟨#[0xb1]⟩ 1 none) (by decide +kernel)) rfl (by rw [hml]; exact hl.1) rfl dX5_init_1 (Nat.le_of_ble_eq_true rfl) (Nat.le_of_ble_eq_true rfl) ?_
  refine W.eq (g2 := F0 m 4 ls []) rfl ?_
  refine lv_aload_n hx hb dX5_init_4 rfl (lv_at hl 0 rfl) ?_
  refine va_new (ci := 0) (fs := [.null, .int 0]) (C := RX0) (T := TX0) (N := 2) hx hb hts (show ∀ w ∈ u_ws RX0 TX0 2, w ∈ wsX5_init by decide +kernel) tyX0 tyX0_ok hown (hts (.classLink RX5 9 RX0) (by decide +kernel)) (hts (.instantiable RX0 2) (by decide +kernel)) (hts (.initialized RX0) (by decide +kernel)) hK.1 hP hD hS hA rfl (show ∀ j, j < 2 → defaultValue (tyX0 j) = vp_V [.null, .int 0] j by decide +kernel) (Nat.le_of_ble_eq_true rfl) (Nat.le_of_ble_eq_true rfl) dX5_init_5 (fun q5 H hP hD hS => ?_)
  refine lv_dup hx hb dX5_init_8 rfl ?_
  refine gCIN (rest := [.ref q5, .ref h0]) (wr := [(h0, .inr (5, [.null, .null, .null, .null, .null, .int 0, .int 0]))]) (q := q5) (e0 := .inr (0, [.null, .int 0])) (ks := [0, 10]) (rows := rZ) ⟨hx, hb, hml, hown, hts⟩ (cX0_init_c l D cy tL z0 q5 H.size (gz hsub hA hD hS)) ⟨va_cnB (host := RX5) 0 hts gX5_init_X0_init_n11 rfl rfl rfl (hK.2.2.2.1 _ (List.mem_of_getElem? (i := 12) rfl)) (hts (.initialized RX0) (by decide +kernel)) (by decide +kernel) ⟨Nat.le_of_ble_eq_true rfl, Nat.le_of_ble_eq_true rfl⟩, rfl, hts (.instanceMethod yX0_init) (by decide +kernel)⟩ hsub hA hK hP hD hS hl.1 (Nat.le_of_ble_eq_true rfl) dX5_init_9 ⟨Nat.le_of_ble_eq_true rfl, Nat.le_of_ble_eq_true rfl⟩ (fun r5 H locs er hP9 hD9 hS9 => ?_)
  clear hP hD hS
  subst er
  have hP := hP9
  have hD := hD9
  have hS := hS9
  clear hP9 hD9 hS9
  refine va_putF (D := D) (ci := 5) (v := .ref (r5 0)) (ty := .object "AdventureParser$Buffer") (C := RX5) (T := TX5) (N := 7) hx hb hts hin9 tyX5 tyX5_ok nmX5 hown hK.1 hP hD hS 0 rfl rfl 0 (by decide) (hts (.fieldLink RX5 12 "AdventureParser" "buffer" "LAdventureParser$Buffer;") (by decide +kernel)) (fun _ h9 => h9) rfl hin rfl (by decide +kernel) rfl rfl (Nat.le_of_ble_eq_true rfl) dX5_init_12 (fun H locs hP hD hS => ?_)
  have hP : va_P D vwCl ([(h0, .inr (5, [.ref (r5 0), .null, .null, .null, .null, .int 0, .int 0]))] ++ gG cy [0, 10] rZ r5) H := hP
  have hD : va_D (gF h0 s.heap.size) ([(h0, .inr (5, [.ref (r5 0), .null, .null, .null, .null, .int 0, .int 0]))] ++ gG cy [0, 10] rZ r5) := hD
  refine lv_aload_n hx hb dX5_init_15 rfl (lv_at hl 0 rfl) ?_
  refine va_new (ci := 2) (fs := [.null, .int 0, .int 0]) (C := RX2) (T := TX2) (N := 3) hx hb hts (show ∀ w ∈ u_ws RX2 TX2 3, w ∈ wsX5_init by decide +kernel) tyX2 tyX2_ok hown (hts (.classLink RX5 16 RX2) (by decide +kernel)) (hts (.instantiable RX2 3) (by decide +kernel)) (hts (.initialized RX2) (by decide +kernel)) hK.1 hP hD hS hA rfl (show ∀ j, j < 3 → defaultValue (tyX2 j) = vp_V [.null, .int 0, .int 0] j by decide +kernel) (Nat.le_of_ble_eq_true rfl) (Nat.le_of_ble_eq_true rfl) dX5_init_16 (fun q16 H hP hD hS => ?_)
  refine lv_dup hx hb dX5_init_19 rfl ?_
  refine gCIN (rest := [.ref q16, .ref h0]) (wr := [(h0, .inr (5, [.ref (r5 0), .null, .null, .null, .null, .int 0, .int 0]))] ++ gG cy [0, 10] rZ r5) (q := q16) (e0 := .inr (2, [.null, .int 0, .int 0])) (ks := [2, 1, 11, 11, 11]) (rows := rR) ⟨hx, hb, hml, hown, hts⟩ (cX2_init_c l D cy tL z0 q16 H.size (gz hsub hA hD hS)) ⟨va_cnB (host := RX5) 0 hts gX5_init_X2_init_n18 rfl rfl rfl (hK.2.2.2.1 _ (List.mem_of_getElem? (i := 11) rfl)) (hts (.initialized RX2) (by decide +kernel)) (by decide +kernel) ⟨Nat.le_of_ble_eq_true rfl, Nat.le_of_ble_eq_true rfl⟩, rfl, hts (.instanceMethod yX2_init) (by decide +kernel)⟩ hsub hA hK hP hD hS hl.1 (Nat.le_of_ble_eq_true rfl) dX5_init_20 ⟨Nat.le_of_ble_eq_true rfl, Nat.le_of_ble_eq_true rfl⟩ (fun r16 H locs er hP9 hD9 hS9 => ?_)
  clear hP hD hS
  subst er
  have hP := hP9
  have hD := hD9
  have hS := hS9
  clear hP9 hD9 hS9
  refine va_putF (D := D) (ci := 5) (v := .ref (r16 0)) (ty := .object "AdventureParser$Reading") (C := RX5) (T := TX5) (N := 7) hx hb hts hin9 tyX5 tyX5_ok nmX5 hown hK.1 hP hD hS 0 rfl rfl 1 (by decide) (hts (.fieldLink RX5 19 "AdventureParser" "reading" "LAdventureParser$Reading;") (by decide +kernel)) (fun _ h9 => h9) rfl hin rfl (by decide +kernel) rfl rfl (Nat.le_of_ble_eq_true rfl) dX5_init_23 (fun H locs hP hD hS => ?_)
  have hP : va_P D vwCl ([(h0, .inr (5, [.ref (r5 0), .ref (r16 0), .null, .null, .null, .int 0, .int 0]))] ++ gG cy [0, 10] rZ r5 ++ gG cy [2, 1, 11, 11, 11] rR r16) H := hP
  have hD : va_D (gF h0 s.heap.size) ([(h0, .inr (5, [.ref (r5 0), .ref (r16 0), .null, .null, .null, .int 0, .int 0]))] ++ gG cy [0, 10] rZ r5 ++ gG cy [2, 1, 11, 11, 11] rR r16) := hD
  refine lv_aload_n hx hb dX5_init_26 rfl (lv_at hl 0 rfl) ?_
  refine va_new (ci := 3) (fs := [.null, .null, .int 0, .int 0, .int 0, .int 0, .int 0, .int 0, .int 0]) (C := RX3) (T := TX3) (N := 9) hx hb hts (show ∀ w ∈ u_ws RX3 TX3 9, w ∈ wsX5_init by decide +kernel) tyX3 tyX3_ok hown (hts (.classLink RX5 23 RX3) (by decide +kernel)) (hts (.instantiable RX3 9) (by decide +kernel)) (hts (.initialized RX3) (by decide +kernel)) hK.1 hP hD hS hA rfl (show ∀ j, j < 9 → defaultValue (tyX3 j) = vp_V [.null, .null, .int 0, .int 0, .int 0, .int 0, .int 0, .int 0, .int 0] j by decide +kernel) (Nat.le_of_ble_eq_true rfl) (Nat.le_of_ble_eq_true rfl) dX5_init_27 (fun q27 H hP hD hS => ?_)
  refine lv_dup hx hb dX5_init_30 rfl ?_
  refine gCIN (rest := [.ref q27, .ref h0]) (wr := [(h0, .inr (5, [.ref (r5 0), .ref (r16 0), .null, .null, .null, .int 0, .int 0]))] ++ gG cy [0, 10] rZ r5 ++ gG cy [2, 1, 11, 11, 11] rR r16) (q := q27) (e0 := .inr (3, [.null, .null, .int 0, .int 0, .int 0, .int 0, .int 0, .int 0, .int 0])) (ks := [3, 4, 12, 12, 12, 1, 11, 11, 11]) (rows := rS) ⟨hx, hb, hml, hown, hts⟩ (cX3_init_c l D cy tL z0 q27 H.size (gz hsub hA hD hS)) ⟨va_cnB (host := RX5) 0 hts gX5_init_X3_init_n25 rfl rfl rfl (hK.2.2.2.1 _ (List.mem_of_getElem? (i := 10) rfl)) (hts (.initialized RX3) (by decide +kernel)) (by decide +kernel) ⟨Nat.le_of_ble_eq_true rfl, Nat.le_of_ble_eq_true rfl⟩, rfl, hts (.instanceMethod yX3_init) (by decide +kernel)⟩ hsub hA hK hP hD hS hl.1 (Nat.le_of_ble_eq_true rfl) dX5_init_31 ⟨Nat.le_of_ble_eq_true rfl, Nat.le_of_ble_eq_true rfl⟩ (fun r27 H locs er hP9 hD9 hS9 => ?_)
  clear hP hD hS
  subst er
  have hP := hP9
  have hD := hD9
  have hS := hS9
  clear hP9 hD9 hS9
  refine va_putF (D := D) (ci := 5) (v := .ref (r27 0)) (ty := .object "AdventureParser$State") (C := RX5) (T := TX5) (N := 7) hx hb hts hin9 tyX5 tyX5_ok nmX5 hown hK.1 hP hD hS 0 rfl rfl 2 (by decide) (hts (.fieldLink RX5 26 "AdventureParser" "state" "LAdventureParser$State;") (by decide +kernel)) (fun _ h9 => h9) rfl hin rfl (by decide +kernel) rfl rfl (Nat.le_of_ble_eq_true rfl) dX5_init_34 (fun H locs hP hD hS => ?_)
  have hP : va_P D vwCl ([(h0, .inr (5, [.ref (r5 0), .ref (r16 0), .ref (r27 0), .null, .null, .int 0, .int 0]))] ++ gG cy [0, 10] rZ r5 ++ gG cy [2, 1, 11, 11, 11] rR r16 ++ gG cy [3, 4, 12, 12, 12, 1, 11, 11, 11] rS r27) H := hP
  have hD : va_D (gF h0 s.heap.size) ([(h0, .inr (5, [.ref (r5 0), .ref (r16 0), .ref (r27 0), .null, .null, .int 0, .int 0]))] ++ gG cy [0, 10] rZ r5 ++ gG cy [2, 1, 11, 11, 11] rR r16 ++ gG cy [3, 4, 12, 12, 12, 1, 11, 11, 11] rS r27) := hD
  refine lv_aload_n hx hb dX5_init_37 rfl (lv_at hl 0 rfl) ?_
  refine va_new (ci := 3) (fs := [.null, .null, .int 0, .int 0, .int 0, .int 0, .int 0, .int 0, .int 0]) (C := RX3) (T := TX3) (N := 9) hx hb hts (show ∀ w ∈ u_ws RX3 TX3 9, w ∈ wsX5_init by decide +kernel) tyX3 tyX3_ok hown (hts (.classLink RX5 23 RX3) (by decide +kernel)) (hts (.instantiable RX3 9) (by decide +kernel)) (hts (.initialized RX3) (by decide +kernel)) hK.1 hP hD hS hA rfl (show ∀ j, j < 9 → defaultValue (tyX3 j) = vp_V [.null, .null, .int 0, .int 0, .int 0, .int 0, .int 0, .int 0, .int 0] j by decide +kernel) (Nat.le_of_ble_eq_true rfl) (Nat.le_of_ble_eq_true rfl) dX5_init_38 (fun q38 H hP hD hS => ?_)
  refine lv_dup hx hb dX5_init_41 rfl ?_
  refine gCIN (rest := [.ref q38, .ref h0]) (wr := [(h0, .inr (5, [.ref (r5 0), .ref (r16 0), .ref (r27 0), .null, .null, .int 0, .int 0]))] ++ gG cy [0, 10] rZ r5 ++ gG cy [2, 1, 11, 11, 11] rR r16 ++ gG cy [3, 4, 12, 12, 12, 1, 11, 11, 11] rS r27) (q := q38) (e0 := .inr (3, [.null, .null, .int 0, .int 0, .int 0, .int 0, .int 0, .int 0, .int 0])) (ks := [3, 4, 12, 12, 12, 1, 11, 11, 11]) (rows := rS) ⟨hx, hb, hml, hown, hts⟩ (cX3_init_c l D cy tL z0 q38 H.size (gz hsub hA hD hS)) ⟨va_cnB (host := RX5) 0 hts gX5_init_X3_init_n25 rfl rfl rfl (hK.2.2.2.1 _ (List.mem_of_getElem? (i := 10) rfl)) (hts (.initialized RX3) (by decide +kernel)) (by decide +kernel) ⟨Nat.le_of_ble_eq_true rfl, Nat.le_of_ble_eq_true rfl⟩, rfl, hts (.instanceMethod yX3_init) (by decide +kernel)⟩ hsub hA hK hP hD hS hl.1 (Nat.le_of_ble_eq_true rfl) dX5_init_42 ⟨Nat.le_of_ble_eq_true rfl, Nat.le_of_ble_eq_true rfl⟩ (fun r38 H locs er hP9 hD9 hS9 => ?_)
  clear hP hD hS
  subst er
  have hP := hP9
  have hD := hD9
  have hS := hS9
  clear hP9 hD9 hS9
  refine va_putF (D := D) (ci := 5) (v := .ref (r38 0)) (ty := .object "AdventureParser$State") (C := RX5) (T := TX5) (N := 7) hx hb hts hin9 tyX5 tyX5_ok nmX5 hown hK.1 hP hD hS 0 rfl rfl 3 (by decide) (hts (.fieldLink RX5 30 "AdventureParser" "forecast" "LAdventureParser$State;") (by decide +kernel)) (fun _ h9 => h9) rfl hin rfl (by decide +kernel) rfl rfl (Nat.le_of_ble_eq_true rfl) dX5_init_45 (fun H locs hP hD hS => ?_)
  have hP : va_P D vwCl ([(h0, .inr (5, [.ref (r5 0), .ref (r16 0), .ref (r27 0), .ref (r38 0), .null, .int 0, .int 0]))] ++ gG cy [0, 10] rZ r5 ++ gG cy [2, 1, 11, 11, 11] rR r16 ++ gG cy [3, 4, 12, 12, 12, 1, 11, 11, 11] rS r27 ++ gG cy [3, 4, 12, 12, 12, 1, 11, 11, 11] rS r38) H := hP
  have hD : va_D (gF h0 s.heap.size) ([(h0, .inr (5, [.ref (r5 0), .ref (r16 0), .ref (r27 0), .ref (r38 0), .null, .int 0, .int 0]))] ++ gG cy [0, 10] rZ r5 ++ gG cy [2, 1, 11, 11, 11] rR r16 ++ gG cy [3, 4, 12, 12, 12, 1, 11, 11, 11] rS r27 ++ gG cy [3, 4, 12, 12, 12, 1, 11, 11, 11] rS r38) := hD
  refine lv_aload_n hx hb dX5_init_48 rfl (lv_at hl 0 rfl) ?_
  refine lv_bipush (v := 6) hx hb dX5_init_49 (by decide) ?_
  refine va_newq (C := RX3) (N' := 6) hx hb hown (hts (.classLink RX5 23 RX3) (by decide +kernel)) hK.2.2.2.2 hK.1 hP hD hS hA (by decide) (by decide) (by decide) (Nat.le_of_ble_eq_true rfl) (Nat.le_of_ble_eq_true rfl) dX5_init_51 (fun q51 cA H hKn hP hD hS => ?_)
  have eA := gcy_s hKn
  subst eA
  have hP : va_P D vwCl ([(h0, .inr (5, [.ref (r5 0), .ref (r16 0), .ref (r27 0), .ref (r38 0), .null, .int 0, .int 0]))] ++ gG cy [0, 10] rZ r5 ++ gG cy [2, 1, 11, 11, 11] rR r16 ++ gG cy [3, 4, 12, 12, 12, 1, 11, 11, 11] rS r27 ++ gG cy [3, 4, 12, 12, 12, 1, 11, 11, 11] rS r38 ++ [(q51, .inl (cy 2, 6, .inr (.inr (.inr (.inr (fun _ => none))))))]) H := hP
  have hD : va_D (gF h0 s.heap.size) ([(h0, .inr (5, [.ref (r5 0), .ref (r16 0), .ref (r27 0), .ref (r38 0), .null, .int 0, .int 0]))] ++ gG cy [0, 10] rZ r5 ++ gG cy [2, 1, 11, 11, 11] rR r16 ++ gG cy [3, 4, 12, 12, 12, 1, 11, 11, 11] rS r27 ++ gG cy [3, 4, 12, 12, 12, 1, 11, 11, 11] rS r38 ++ [(q51, .inl (cy 2, 6, .inr (.inr (.inr (.inr (fun _ => none))))))]) := hD
  refine va_putF (D := D) (ci := 5) (v := .ref q51) (ty := .array (.object "AdventureParser$State")) (C := RX5) (T := TX5) (N := 7) hx hb hts hin9 tyX5 tyX5_ok nmX5 hown hK.1 hP hD hS 0 rfl rfl 4 (by decide) (hts (.fieldLink RX5 33 "AdventureParser" "saved" "[LAdventureParser$State;") (by decide +kernel)) (fun _ h9 => h9) rfl hin rfl (by decide +kernel) rfl rfl (Nat.le_of_ble_eq_true rfl) dX5_init_54 (fun H locs hP hD hS => ?_)
  have hP : va_P D vwCl ([(h0, .inr (5, [.ref (r5 0), .ref (r16 0), .ref (r27 0), .ref (r38 0), .ref q51, .int 0, .int 0]))] ++ gG cy [0, 10] rZ r5 ++ gG cy [2, 1, 11, 11, 11] rR r16 ++ gG cy [3, 4, 12, 12, 12, 1, 11, 11, 11] rS r27 ++ gG cy [3, 4, 12, 12, 12, 1, 11, 11, 11] rS r38 ++ [(q51, .inl (cy 2, 6, .inr (.inr (.inr (.inr (fun _ => none))))))]) H := hP
  have hD : va_D (gF h0 s.heap.size) ([(h0, .inr (5, [.ref (r5 0), .ref (r16 0), .ref (r27 0), .ref (r38 0), .ref q51, .int 0, .int 0]))] ++ gG cy [0, 10] rZ r5 ++ gG cy [2, 1, 11, 11, 11] rR r16 ++ gG cy [3, 4, 12, 12, 12, 1, 11, 11, 11] rS r27 ++ gG cy [3, 4, 12, 12, 12, 1, 11, 11, 11] rS r38 ++ [(q51, .inl (cy 2, 6, .inr (.inr (.inr (.inr (fun _ => none))))))]) := hD
  refine lv_iconst (v := 0) hx hb dX5_init_57 (by decide) ?_
  refine lv_istore_n (lv' := [(1, .int 0), (0, .ref h0)]) hx hb dX5_init_58 rfl hl (by decide) rfl (fun ls hl => ?_)
  refine lv_iload_n hx hb dX5_init_59 rfl (lv_at hl 0 rfl) ?_
  refine lv_aload_n hx hb dX5_init_60 rfl (lv_at hl 1 rfl) ?_
  refine va_get (D := D) (ci := 5) (v := .ref q51) (C := RX5) (T := TX5) (N := 7) hx hb hts hin9 hown hK.1 hP 0 rfl rfl 4 (by decide) (hts (.fieldLink RX5 33 "AdventureParser" "saved" "[LAdventureParser$State;") (by decide +kernel)) (fun _ h9 => h9) rfl dX5_init_61 ?_
  refine va_alen (v := 6) hx hb hK.1 hP 26 2 rfl rfl rfl dX5_init_64 ?_
  refine lv_icmp_ge (tgt := 87) hx hb dX5_init_65 (by decide) (fun h9 => absurd h9 (by decide)) (fun _ => ?_)
  refine lv_aload_n hx hb dX5_init_68 rfl (lv_at hl 1 rfl) ?_
  refine va_get (D := D) (ci := 5) (v := .ref q51) (C := RX5) (T := TX5) (N := 7) hx hb hts hin9 hown hK.1 hP 0 rfl rfl 4 (by decide) (hts (.fieldLink RX5 33 "AdventureParser" "saved" "[LAdventureParser$State;") (by decide +kernel)) (fun _ h9 => h9) rfl dX5_init_69 ?_
  refine lv_iload_n hx hb dX5_init_72 rfl (lv_at hl 0 rfl) ?_
  refine va_new (ci := 3) (fs := [.null, .null, .int 0, .int 0, .int 0, .int 0, .int 0, .int 0, .int 0]) (C := RX3) (T := TX3) (N := 9) hx hb hts (show ∀ w ∈ u_ws RX3 TX3 9, w ∈ wsX5_init by decide +kernel) tyX3 tyX3_ok hown (hts (.classLink RX5 23 RX3) (by decide +kernel)) (hts (.instantiable RX3 9) (by decide +kernel)) (hts (.initialized RX3) (by decide +kernel)) hK.1 hP hD hS hA rfl (show ∀ j, j < 9 → defaultValue (tyX3 j) = vp_V [.null, .null, .int 0, .int 0, .int 0, .int 0, .int 0, .int 0, .int 0] j by decide +kernel) (Nat.le_of_ble_eq_true rfl) (Nat.le_of_ble_eq_true rfl) dX5_init_73 (fun q73 H hP hD hS => ?_)
  refine lv_dup hx hb dX5_init_76 rfl ?_
  refine gCIN (rest := [.ref q73, .int 0, .ref q51]) (wr := [(h0, .inr (5, [.ref (r5 0), .ref (r16 0), .ref (r27 0), .ref (r38 0), .ref q51, .int 0, .int 0]))] ++ gG cy [0, 10] rZ r5 ++ gG cy [2, 1, 11, 11, 11] rR r16 ++ gG cy [3, 4, 12, 12, 12, 1, 11, 11, 11] rS r27 ++ gG cy [3, 4, 12, 12, 12, 1, 11, 11, 11] rS r38 ++ [(q51, .inl (cy 2, 6, .inr (.inr (.inr (.inr (fun _ => none))))))]) (q := q73) (e0 := .inr (3, [.null, .null, .int 0, .int 0, .int 0, .int 0, .int 0, .int 0, .int 0])) (ks := [3, 4, 12, 12, 12, 1, 11, 11, 11]) (rows := rS) ⟨hx, hb, hml, hown, hts⟩ (cX3_init_c l D cy tL z0 q73 H.size (gz hsub hA hD hS)) ⟨va_cnB (host := RX5) 0 hts gX5_init_X3_init_n25 rfl rfl rfl (hK.2.2.2.1 _ (List.mem_of_getElem? (i := 10) rfl)) (hts (.initialized RX3) (by decide +kernel)) (by decide +kernel) ⟨Nat.le_of_ble_eq_true rfl, Nat.le_of_ble_eq_true rfl⟩, rfl, hts (.instanceMethod yX3_init) (by decide +kernel)⟩ hsub hA hK hP hD hS hl.1 (Nat.le_of_ble_eq_true rfl) dX5_init_77 ⟨Nat.le_of_ble_eq_true rfl, Nat.le_of_ble_eq_true rfl⟩ (fun r73 H locs er hP9 hD9 hS9 => ?_)
  clear hP hD hS
  subst er
  have hP := hP9
  have hD := hD9
  have hS := hS9
  clear hP9 hD9 hS9
  refine va_astq (i := 0) hx hb hK.1 hP hD hS 26 2 27 3 rfl rfl rfl rfl (by unfold vp_in; decide) dX5_init_80 (fun H locs hP hD hS => ?_)
  obtain ⟨f0_80, ef0_80⟩ : ∃ z, z = va_up (fun _ => none) ((0 : Int32).toNatClampNeg) (some (r73 0)) := ⟨_, rfl⟩
  rw [← ef0_80] at hP hD
  have hP : va_P D vwCl ([(h0, .inr (5, [.ref (r5 0), .ref (r16 0), .ref (r27 0), .ref (r38 0), .ref q51, .int 0, .int 0]))] ++ gG cy [0, 10] rZ r5 ++ gG cy [2, 1, 11, 11, 11] rR r16 ++ gG cy [3, 4, 12, 12, 12, 1, 11, 11, 11] rS r27 ++ gG cy [3, 4, 12, 12, 12, 1, 11, 11, 11] rS r38 ++ [(q51, .inl (cy 2, 6, .inr (.inr (.inr (.inr (f0_80))))))] ++ gG cy [3, 4, 12, 12, 12, 1, 11, 11, 11] rS r73) H := hP
  have hD : va_D (gF h0 s.heap.size) ([(h0, .inr (5, [.ref (r5 0), .ref (r16 0), .ref (r27 0), .ref (r38 0), .ref q51, .int 0, .int 0]))] ++ gG cy [0, 10] rZ r5 ++ gG cy [2, 1, 11, 11, 11] rR r16 ++ gG cy [3, 4, 12, 12, 12, 1, 11, 11, 11] rS r27 ++ gG cy [3, 4, 12, 12, 12, 1, 11, 11, 11] rS r38 ++ [(q51, .inl (cy 2, 6, .inr (.inr (.inr (.inr (f0_80))))))] ++ gG cy [3, 4, 12, 12, 12, 1, 11, 11, 11] rS r73) := hD
  refine lv_iinc (v := 1) (lv' := [(1, .int 1), (0, .ref h0)]) hx hb dX5_init_81 hl (k := 0) rfl (by decide) (by decide) rfl (fun ls hl => ?_)
  refine lv_goto (tgt := 59) hx hb dX5_init_84 (by decide) ?_
  refine lv_iload_n hx hb dX5_init_59 rfl (lv_at hl 0 rfl) ?_
  refine lv_aload_n hx hb dX5_init_60 rfl (lv_at hl 1 rfl) ?_
  refine va_get (D := D) (ci := 5) (v := .ref q51) (C := RX5) (T := TX5) (N := 7) hx hb hts hin9 hown hK.1 hP 0 rfl rfl 4 (by decide) (hts (.fieldLink RX5 33 "AdventureParser" "saved" "[LAdventureParser$State;") (by decide +kernel)) (fun _ h9 => h9) rfl dX5_init_61 ?_
  refine va_alen (v := 6) hx hb hK.1 hP 26 2 rfl rfl rfl dX5_init_64 ?_
  refine lv_icmp_ge (tgt := 87) hx hb dX5_init_65 (by decide) (fun h9 => absurd h9 (by decide)) (fun _ => ?_)
  refine lv_aload_n hx hb dX5_init_68 rfl (lv_at hl 1 rfl) ?_
  refine va_get (D := D) (ci := 5) (v := .ref q51) (C := RX5) (T := TX5) (N := 7) hx hb hts hin9 hown hK.1 hP 0 rfl rfl 4 (by decide) (hts (.fieldLink RX5 33 "AdventureParser" "saved" "[LAdventureParser$State;") (by decide +kernel)) (fun _ h9 => h9) rfl dX5_init_69 ?_
  refine lv_iload_n hx hb dX5_init_72 rfl (lv_at hl 0 rfl) ?_
  refine va_new (ci := 3) (fs := [.null, .null, .int 0, .int 0, .int 0, .int 0, .int 0, .int 0, .int 0]) (C := RX3) (T := TX3) (N := 9) hx hb hts (show ∀ w ∈ u_ws RX3 TX3 9, w ∈ wsX5_init by decide +kernel) tyX3 tyX3_ok hown (hts (.classLink RX5 23 RX3) (by decide +kernel)) (hts (.instantiable RX3 9) (by decide +kernel)) (hts (.initialized RX3) (by decide +kernel)) hK.1 hP hD hS hA rfl (show ∀ j, j < 9 → defaultValue (tyX3 j) = vp_V [.null, .null, .int 0, .int 0, .int 0, .int 0, .int 0, .int 0, .int 0] j by decide +kernel) (Nat.le_of_ble_eq_true rfl) (Nat.le_of_ble_eq_true rfl) dX5_init_73 (fun q73_5 H hP hD hS => ?_)
  refine lv_dup hx hb dX5_init_76 rfl ?_
  refine gCIN (rest := [.ref q73_5, .int 1, .ref q51]) (wr := [(h0, .inr (5, [.ref (r5 0), .ref (r16 0), .ref (r27 0), .ref (r38 0), .ref q51, .int 0, .int 0]))] ++ gG cy [0, 10] rZ r5 ++ gG cy [2, 1, 11, 11, 11] rR r16 ++ gG cy [3, 4, 12, 12, 12, 1, 11, 11, 11] rS r27 ++ gG cy [3, 4, 12, 12, 12, 1, 11, 11, 11] rS r38 ++ [(q51, .inl (cy 2, 6, .inr (.inr (.inr (.inr (f0_80))))))] ++ gG cy [3, 4, 12, 12, 12, 1, 11, 11, 11] rS r73) (q := q73_5) (e0 := .inr (3, [.null, .null, .int 0, .int 0, .int 0, .int 0, .int 0, .int 0, .int 0])) (ks := [3, 4, 12, 12, 12, 1, 11, 11, 11]) (rows := rS) ⟨hx, hb, hml, hown, hts⟩ (cX3_init_c l D cy tL z0 q73_5 H.size (gz hsub hA hD hS)) ⟨va_cnB (host := RX5) 0 hts gX5_init_X3_init_n25 rfl rfl rfl (hK.2.2.2.1 _ (List.mem_of_getElem? (i := 10) rfl)) (hts (.initialized RX3) (by decide +kernel)) (by decide +kernel) ⟨Nat.le_of_ble_eq_true rfl, Nat.le_of_ble_eq_true rfl⟩, rfl, hts (.instanceMethod yX3_init) (by decide +kernel)⟩ hsub hA hK hP hD hS hl.1 (Nat.le_of_ble_eq_true rfl) dX5_init_77 ⟨Nat.le_of_ble_eq_true rfl, Nat.le_of_ble_eq_true rfl⟩ (fun r73_5 H locs er hP9 hD9 hS9 => ?_)
  clear hP hD hS
  subst er
  have hP := hP9
  have hD := hD9
  have hS := hS9
  clear hP9 hD9 hS9
  refine va_astq (i := 1) hx hb hK.1 hP hD hS 26 2 36 3 rfl rfl rfl rfl (by unfold vp_in; decide) dX5_init_80 (fun H locs hP hD hS => ?_)
  obtain ⟨f1_80, ef1_80⟩ : ∃ z, z = va_up (f0_80) ((1 : Int32).toNatClampNeg) (some (r73_5 0)) := ⟨_, rfl⟩
  rw [← ef1_80] at hP hD
  have hP : va_P D vwCl ([(h0, .inr (5, [.ref (r5 0), .ref (r16 0), .ref (r27 0), .ref (r38 0), .ref q51, .int 0, .int 0]))] ++ gG cy [0, 10] rZ r5 ++ gG cy [2, 1, 11, 11, 11] rR r16 ++ gG cy [3, 4, 12, 12, 12, 1, 11, 11, 11] rS r27 ++ gG cy [3, 4, 12, 12, 12, 1, 11, 11, 11] rS r38 ++ [(q51, .inl (cy 2, 6, .inr (.inr (.inr (.inr (f1_80))))))] ++ gG cy [3, 4, 12, 12, 12, 1, 11, 11, 11] rS r73 ++ gG cy [3, 4, 12, 12, 12, 1, 11, 11, 11] rS r73_5) H := hP
  have hD : va_D (gF h0 s.heap.size) ([(h0, .inr (5, [.ref (r5 0), .ref (r16 0), .ref (r27 0), .ref (r38 0), .ref q51, .int 0, .int 0]))] ++ gG cy [0, 10] rZ r5 ++ gG cy [2, 1, 11, 11, 11] rR r16 ++ gG cy [3, 4, 12, 12, 12, 1, 11, 11, 11] rS r27 ++ gG cy [3, 4, 12, 12, 12, 1, 11, 11, 11] rS r38 ++ [(q51, .inl (cy 2, 6, .inr (.inr (.inr (.inr (f1_80))))))] ++ gG cy [3, 4, 12, 12, 12, 1, 11, 11, 11] rS r73 ++ gG cy [3, 4, 12, 12, 12, 1, 11, 11, 11] rS r73_5) := hD
  refine lv_iinc (v := 2) (lv' := [(1, .int 2), (0, .ref h0)]) hx hb dX5_init_81 hl (k := 0) rfl (by decide) (by decide) rfl (fun ls hl => ?_)
  refine lv_goto (tgt := 59) hx hb dX5_init_84 (by decide) ?_
  refine lv_iload_n hx hb dX5_init_59 rfl (lv_at hl 0 rfl) ?_
  refine lv_aload_n hx hb dX5_init_60 rfl (lv_at hl 1 rfl) ?_
  refine va_get (D := D) (ci := 5) (v := .ref q51) (C := RX5) (T := TX5) (N := 7) hx hb hts hin9 hown hK.1 hP 0 rfl rfl 4 (by decide) (hts (.fieldLink RX5 33 "AdventureParser" "saved" "[LAdventureParser$State;") (by decide +kernel)) (fun _ h9 => h9) rfl dX5_init_61 ?_
  refine va_alen (v := 6) hx hb hK.1 hP 26 2 rfl rfl rfl dX5_init_64 ?_
  refine lv_icmp_ge (tgt := 87) hx hb dX5_init_65 (by decide) (fun h9 => absurd h9 (by decide)) (fun _ => ?_)
  refine lv_aload_n hx hb dX5_init_68 rfl (lv_at hl 1 rfl) ?_
  refine va_get (D := D) (ci := 5) (v := .ref q51) (C := RX5) (T := TX5) (N := 7) hx hb hts hin9 hown hK.1 hP 0 rfl rfl 4 (by decide) (hts (.fieldLink RX5 33 "AdventureParser" "saved" "[LAdventureParser$State;") (by decide +kernel)) (fun _ h9 => h9) rfl dX5_init_69 ?_
  refine lv_iload_n hx hb dX5_init_72 rfl (lv_at hl 0 rfl) ?_
  refine va_new (ci := 3) (fs := [.null, .null, .int 0, .int 0, .int 0, .int 0, .int 0, .int 0, .int 0]) (C := RX3) (T := TX3) (N := 9) hx hb hts (show ∀ w ∈ u_ws RX3 TX3 9, w ∈ wsX5_init by decide +kernel) tyX3 tyX3_ok hown (hts (.classLink RX5 23 RX3) (by decide +kernel)) (hts (.instantiable RX3 9) (by decide +kernel)) (hts (.initialized RX3) (by decide +kernel)) hK.1 hP hD hS hA rfl (show ∀ j, j < 9 → defaultValue (tyX3 j) = vp_V [.null, .null, .int 0, .int 0, .int 0, .int 0, .int 0, .int 0, .int 0] j by decide +kernel) (Nat.le_of_ble_eq_true rfl) (Nat.le_of_ble_eq_true rfl) dX5_init_73 (fun q73_6 H hP hD hS => ?_)
  refine lv_dup hx hb dX5_init_76 rfl ?_
  refine gCIN (rest := [.ref q73_6, .int 2, .ref q51]) (wr := [(h0, .inr (5, [.ref (r5 0), .ref (r16 0), .ref (r27 0), .ref (r38 0), .ref q51, .int 0, .int 0]))] ++ gG cy [0, 10] rZ r5 ++ gG cy [2, 1, 11, 11, 11] rR r16 ++ gG cy [3, 4, 12, 12, 12, 1, 11, 11, 11] rS r27 ++ gG cy [3, 4, 12, 12, 12, 1, 11, 11, 11] rS r38 ++ [(q51, .inl (cy 2, 6, .inr (.inr (.inr (.inr (f1_80))))))] ++ gG cy [3, 4, 12, 12, 12, 1, 11, 11, 11] rS r73 ++ gG cy [3, 4, 12, 12, 12, 1, 11, 11, 11] rS r73_5) (q := q73_6) (e0 := .inr (3, [.null, .null, .int 0, .int 0, .int 0, .int 0, .int 0, .int 0, .int 0])) (ks := [3, 4, 12, 12, 12, 1, 11, 11, 11]) (rows := rS) ⟨hx, hb, hml, hown, hts⟩ (cX3_init_c l D cy tL z0 q73_6 H.size (gz hsub hA hD hS)) ⟨va_cnB (host := RX5) 0 hts gX5_init_X3_init_n25 rfl rfl rfl (hK.2.2.2.1 _ (List.mem_of_getElem? (i := 10) rfl)) (hts (.initialized RX3) (by decide +kernel)) (by decide +kernel) ⟨Nat.le_of_ble_eq_true rfl, Nat.le_of_ble_eq_true rfl⟩, rfl, hts (.instanceMethod yX3_init) (by decide +kernel)⟩ hsub hA hK hP hD hS hl.1 (Nat.le_of_ble_eq_true rfl) dX5_init_77 ⟨Nat.le_of_ble_eq_true rfl, Nat.le_of_ble_eq_true rfl⟩ (fun r73_6 H locs er hP9 hD9 hS9 => ?_)
  clear hP hD hS
  subst er
  have hP := hP9
  have hD := hD9
  have hS := hS9
  clear hP9 hD9 hS9
  refine va_astq (i := 2) hx hb hK.1 hP hD hS 26 2 45 3 rfl rfl rfl rfl (by unfold vp_in; decide) dX5_init_80 (fun H locs hP hD hS => ?_)
  obtain ⟨f2_80, ef2_80⟩ : ∃ z, z = va_up (f1_80) ((2 : Int32).toNatClampNeg) (some (r73_6 0)) := ⟨_, rfl⟩
  rw [← ef2_80] at hP hD
  have hP : va_P D vwCl ([(h0, .inr (5, [.ref (r5 0), .ref (r16 0), .ref (r27 0), .ref (r38 0), .ref q51, .int 0, .int 0]))] ++ gG cy [0, 10] rZ r5 ++ gG cy [2, 1, 11, 11, 11] rR r16 ++ gG cy [3, 4, 12, 12, 12, 1, 11, 11, 11] rS r27 ++ gG cy [3, 4, 12, 12, 12, 1, 11, 11, 11] rS r38 ++ [(q51, .inl (cy 2, 6, .inr (.inr (.inr (.inr (f2_80))))))] ++ gG cy [3, 4, 12, 12, 12, 1, 11, 11, 11] rS r73 ++ gG cy [3, 4, 12, 12, 12, 1, 11, 11, 11] rS r73_5 ++ gG cy [3, 4, 12, 12, 12, 1, 11, 11, 11] rS r73_6) H := hP
  have hD : va_D (gF h0 s.heap.size) ([(h0, .inr (5, [.ref (r5 0), .ref (r16 0), .ref (r27 0), .ref (r38 0), .ref q51, .int 0, .int 0]))] ++ gG cy [0, 10] rZ r5 ++ gG cy [2, 1, 11, 11, 11] rR r16 ++ gG cy [3, 4, 12, 12, 12, 1, 11, 11, 11] rS r27 ++ gG cy [3, 4, 12, 12, 12, 1, 11, 11, 11] rS r38 ++ [(q51, .inl (cy 2, 6, .inr (.inr (.inr (.inr (f2_80))))))] ++ gG cy [3, 4, 12, 12, 12, 1, 11, 11, 11] rS r73 ++ gG cy [3, 4, 12, 12, 12, 1, 11, 11, 11] rS r73_5 ++ gG cy [3, 4, 12, 12, 12, 1, 11, 11, 11] rS r73_6) := hD
  refine lv_iinc (v := 3) (lv' := [(1, .int 3), (0, .ref h0)]) hx hb dX5_init_81 hl (k := 0) rfl (by decide) (by decide) rfl (fun ls hl => ?_)
  refine lv_goto (tgt := 59) hx hb dX5_init_84 (by decide) ?_
  refine lv_iload_n hx hb dX5_init_59 rfl (lv_at hl 0 rfl) ?_
  refine lv_aload_n hx hb dX5_init_60 rfl (lv_at hl 1 rfl) ?_
  refine va_get (D := D) (ci := 5) (v := .ref q51) (C := RX5) (T := TX5) (N := 7) hx hb hts hin9 hown hK.1 hP 0 rfl rfl 4 (by decide) (hts (.fieldLink RX5 33 "AdventureParser" "saved" "[LAdventureParser$State;") (by decide +kernel)) (fun _ h9 => h9) rfl dX5_init_61 ?_
  refine va_alen (v := 6) hx hb hK.1 hP 26 2 rfl rfl rfl dX5_init_64 ?_
  refine lv_icmp_ge (tgt := 87) hx hb dX5_init_65 (by decide) (fun h9 => absurd h9 (by decide)) (fun _ => ?_)
  refine lv_aload_n hx hb dX5_init_68 rfl (lv_at hl 1 rfl) ?_
  refine va_get (D := D) (ci := 5) (v := .ref q51) (C := RX5) (T := TX5) (N := 7) hx hb hts hin9 hown hK.1 hP 0 rfl rfl 4 (by decide) (hts (.fieldLink RX5 33 "AdventureParser" "saved" "[LAdventureParser$State;") (by decide +kernel)) (fun _ h9 => h9) rfl dX5_init_69 ?_
  refine lv_iload_n hx hb dX5_init_72 rfl (lv_at hl 0 rfl) ?_
  refine va_new (ci := 3) (fs := [.null, .null, .int 0, .int 0, .int 0, .int 0, .int 0, .int 0, .int 0]) (C := RX3) (T := TX3) (N := 9) hx hb hts (show ∀ w ∈ u_ws RX3 TX3 9, w ∈ wsX5_init by decide +kernel) tyX3 tyX3_ok hown (hts (.classLink RX5 23 RX3) (by decide +kernel)) (hts (.instantiable RX3 9) (by decide +kernel)) (hts (.initialized RX3) (by decide +kernel)) hK.1 hP hD hS hA rfl (show ∀ j, j < 9 → defaultValue (tyX3 j) = vp_V [.null, .null, .int 0, .int 0, .int 0, .int 0, .int 0, .int 0, .int 0] j by decide +kernel) (Nat.le_of_ble_eq_true rfl) (Nat.le_of_ble_eq_true rfl) dX5_init_73 (fun q73_7 H hP hD hS => ?_)
  refine lv_dup hx hb dX5_init_76 rfl ?_
  refine gCIN (rest := [.ref q73_7, .int 3, .ref q51]) (wr := [(h0, .inr (5, [.ref (r5 0), .ref (r16 0), .ref (r27 0), .ref (r38 0), .ref q51, .int 0, .int 0]))] ++ gG cy [0, 10] rZ r5 ++ gG cy [2, 1, 11, 11, 11] rR r16 ++ gG cy [3, 4, 12, 12, 12, 1, 11, 11, 11] rS r27 ++ gG cy [3, 4, 12, 12, 12, 1, 11, 11, 11] rS r38 ++ [(q51, .inl (cy 2, 6, .inr (.inr (.inr (.inr (f2_80))))))] ++ gG cy [3, 4, 12, 12, 12, 1, 11, 11, 11] rS r73 ++ gG cy [3, 4, 12, 12, 12, 1, 11, 11, 11] rS r73_5 ++ gG cy [3, 4, 12, 12, 12, 1, 11, 11, 11] rS r73_6) (q := q73_7) (e0 := .inr (3, [.null, .null, .int 0, .int 0, .int 0, .int 0, .int 0, .int 0, .int 0])) (ks := [3, 4, 12, 12, 12, 1, 11, 11, 11]) (rows := rS) ⟨hx, hb, hml, hown, hts⟩ (cX3_init_c l D cy tL z0 q73_7 H.size (gz hsub hA hD hS)) ⟨va_cnB (host := RX5) 0 hts gX5_init_X3_init_n25 rfl rfl rfl (hK.2.2.2.1 _ (List.mem_of_getElem? (i := 10) rfl)) (hts (.initialized RX3) (by decide +kernel)) (by decide +kernel) ⟨Nat.le_of_ble_eq_true rfl, Nat.le_of_ble_eq_true rfl⟩, rfl, hts (.instanceMethod yX3_init) (by decide +kernel)⟩ hsub hA hK hP hD hS hl.1 (Nat.le_of_ble_eq_true rfl) dX5_init_77 ⟨Nat.le_of_ble_eq_true rfl, Nat.le_of_ble_eq_true rfl⟩ (fun r73_7 H locs er hP9 hD9 hS9 => ?_)
  clear hP hD hS
  subst er
  have hP := hP9
  have hD := hD9
  have hS := hS9
  clear hP9 hD9 hS9
  refine va_astq (i := 3) hx hb hK.1 hP hD hS 26 2 54 3 rfl rfl rfl rfl (by unfold vp_in; decide) dX5_init_80 (fun H locs hP hD hS => ?_)
  obtain ⟨f3_80, ef3_80⟩ : ∃ z, z = va_up (f2_80) ((3 : Int32).toNatClampNeg) (some (r73_7 0)) := ⟨_, rfl⟩
  rw [← ef3_80] at hP hD
  have hP : va_P D vwCl ([(h0, .inr (5, [.ref (r5 0), .ref (r16 0), .ref (r27 0), .ref (r38 0), .ref q51, .int 0, .int 0]))] ++ gG cy [0, 10] rZ r5 ++ gG cy [2, 1, 11, 11, 11] rR r16 ++ gG cy [3, 4, 12, 12, 12, 1, 11, 11, 11] rS r27 ++ gG cy [3, 4, 12, 12, 12, 1, 11, 11, 11] rS r38 ++ [(q51, .inl (cy 2, 6, .inr (.inr (.inr (.inr (f3_80))))))] ++ gG cy [3, 4, 12, 12, 12, 1, 11, 11, 11] rS r73 ++ gG cy [3, 4, 12, 12, 12, 1, 11, 11, 11] rS r73_5 ++ gG cy [3, 4, 12, 12, 12, 1, 11, 11, 11] rS r73_6 ++ gG cy [3, 4, 12, 12, 12, 1, 11, 11, 11] rS r73_7) H := hP
  have hD : va_D (gF h0 s.heap.size) ([(h0, .inr (5, [.ref (r5 0), .ref (r16 0), .ref (r27 0), .ref (r38 0), .ref q51, .int 0, .int 0]))] ++ gG cy [0, 10] rZ r5 ++ gG cy [2, 1, 11, 11, 11] rR r16 ++ gG cy [3, 4, 12, 12, 12, 1, 11, 11, 11] rS r27 ++ gG cy [3, 4, 12, 12, 12, 1, 11, 11, 11] rS r38 ++ [(q51, .inl (cy 2, 6, .inr (.inr (.inr (.inr (f3_80))))))] ++ gG cy [3, 4, 12, 12, 12, 1, 11, 11, 11] rS r73 ++ gG cy [3, 4, 12, 12, 12, 1, 11, 11, 11] rS r73_5 ++ gG cy [3, 4, 12, 12, 12, 1, 11, 11, 11] rS r73_6 ++ gG cy [3, 4, 12, 12, 12, 1, 11, 11, 11] rS r73_7) := hD
  refine lv_iinc (v := 4) (lv' := [(1, .int 4), (0, .ref h0)]) hx hb dX5_init_81 hl (k := 0) rfl (by decide) (by decide) rfl (fun ls hl => ?_)
  refine lv_goto (tgt := 59) hx hb dX5_init_84 (by decide) ?_
  refine lv_iload_n hx hb dX5_init_59 rfl (lv_at hl 0 rfl) ?_
  refine lv_aload_n hx hb dX5_init_60 rfl (lv_at hl 1 rfl) ?_
  refine va_get (D := D) (ci := 5) (v := .ref q51) (C := RX5) (T := TX5) (N := 7) hx hb hts hin9 hown hK.1 hP 0 rfl rfl 4 (by decide) (hts (.fieldLink RX5 33 "AdventureParser" "saved" "[LAdventureParser$State;") (by decide +kernel)) (fun _ h9 => h9) rfl dX5_init_61 ?_
  refine va_alen (v := 6) hx hb hK.1 hP 26 2 rfl rfl rfl dX5_init_64 ?_
  refine lv_icmp_ge (tgt := 87) hx hb dX5_init_65 (by decide) (fun h9 => absurd h9 (by decide)) (fun _ => ?_)
  refine lv_aload_n hx hb dX5_init_68 rfl (lv_at hl 1 rfl) ?_
  refine va_get (D := D) (ci := 5) (v := .ref q51) (C := RX5) (T := TX5) (N := 7) hx hb hts hin9 hown hK.1 hP 0 rfl rfl 4 (by decide) (hts (.fieldLink RX5 33 "AdventureParser" "saved" "[LAdventureParser$State;") (by decide +kernel)) (fun _ h9 => h9) rfl dX5_init_69 ?_
  refine lv_iload_n hx hb dX5_init_72 rfl (lv_at hl 0 rfl) ?_
  refine va_new (ci := 3) (fs := [.null, .null, .int 0, .int 0, .int 0, .int 0, .int 0, .int 0, .int 0]) (C := RX3) (T := TX3) (N := 9) hx hb hts (show ∀ w ∈ u_ws RX3 TX3 9, w ∈ wsX5_init by decide +kernel) tyX3 tyX3_ok hown (hts (.classLink RX5 23 RX3) (by decide +kernel)) (hts (.instantiable RX3 9) (by decide +kernel)) (hts (.initialized RX3) (by decide +kernel)) hK.1 hP hD hS hA rfl (show ∀ j, j < 9 → defaultValue (tyX3 j) = vp_V [.null, .null, .int 0, .int 0, .int 0, .int 0, .int 0, .int 0, .int 0] j by decide +kernel) (Nat.le_of_ble_eq_true rfl) (Nat.le_of_ble_eq_true rfl) dX5_init_73 (fun q73_8 H hP hD hS => ?_)
  refine lv_dup hx hb dX5_init_76 rfl ?_
  refine gCIN (rest := [.ref q73_8, .int 4, .ref q51]) (wr := [(h0, .inr (5, [.ref (r5 0), .ref (r16 0), .ref (r27 0), .ref (r38 0), .ref q51, .int 0, .int 0]))] ++ gG cy [0, 10] rZ r5 ++ gG cy [2, 1, 11, 11, 11] rR r16 ++ gG cy [3, 4, 12, 12, 12, 1, 11, 11, 11] rS r27 ++ gG cy [3, 4, 12, 12, 12, 1, 11, 11, 11] rS r38 ++ [(q51, .inl (cy 2, 6, .inr (.inr (.inr (.inr (f3_80))))))] ++ gG cy [3, 4, 12, 12, 12, 1, 11, 11, 11] rS r73 ++ gG cy [3, 4, 12, 12, 12, 1, 11, 11, 11] rS r73_5 ++ gG cy [3, 4, 12, 12, 12, 1, 11, 11, 11] rS r73_6 ++ gG cy [3, 4, 12, 12, 12, 1, 11, 11, 11] rS r73_7) (q := q73_8) (e0 := .inr (3, [.null, .null, .int 0, .int 0, .int 0, .int 0, .int 0, .int 0, .int 0])) (ks := [3, 4, 12, 12, 12, 1, 11, 11, 11]) (rows := rS) ⟨hx, hb, hml, hown, hts⟩ (cX3_init_c l D cy tL z0 q73_8 H.size (gz hsub hA hD hS)) ⟨va_cnB (host := RX5) 0 hts gX5_init_X3_init_n25 rfl rfl rfl (hK.2.2.2.1 _ (List.mem_of_getElem? (i := 10) rfl)) (hts (.initialized RX3) (by decide +kernel)) (by decide +kernel) ⟨Nat.le_of_ble_eq_true rfl, Nat.le_of_ble_eq_true rfl⟩, rfl, hts (.instanceMethod yX3_init) (by decide +kernel)⟩ hsub hA hK hP hD hS hl.1 (Nat.le_of_ble_eq_true rfl) dX5_init_77 ⟨Nat.le_of_ble_eq_true rfl, Nat.le_of_ble_eq_true rfl⟩ (fun r73_8 H locs er hP9 hD9 hS9 => ?_)
  clear hP hD hS
  subst er
  have hP := hP9
  have hD := hD9
  have hS := hS9
  clear hP9 hD9 hS9
  refine va_astq (i := 4) hx hb hK.1 hP hD hS 26 2 63 3 rfl rfl rfl rfl (by unfold vp_in; decide) dX5_init_80 (fun H locs hP hD hS => ?_)
  obtain ⟨f4_80, ef4_80⟩ : ∃ z, z = va_up (f3_80) ((4 : Int32).toNatClampNeg) (some (r73_8 0)) := ⟨_, rfl⟩
  rw [← ef4_80] at hP hD
  have hP : va_P D vwCl ([(h0, .inr (5, [.ref (r5 0), .ref (r16 0), .ref (r27 0), .ref (r38 0), .ref q51, .int 0, .int 0]))] ++ gG cy [0, 10] rZ r5 ++ gG cy [2, 1, 11, 11, 11] rR r16 ++ gG cy [3, 4, 12, 12, 12, 1, 11, 11, 11] rS r27 ++ gG cy [3, 4, 12, 12, 12, 1, 11, 11, 11] rS r38 ++ [(q51, .inl (cy 2, 6, .inr (.inr (.inr (.inr (f4_80))))))] ++ gG cy [3, 4, 12, 12, 12, 1, 11, 11, 11] rS r73 ++ gG cy [3, 4, 12, 12, 12, 1, 11, 11, 11] rS r73_5 ++ gG cy [3, 4, 12, 12, 12, 1, 11, 11, 11] rS r73_6 ++ gG cy [3, 4, 12, 12, 12, 1, 11, 11, 11] rS r73_7 ++ gG cy [3, 4, 12, 12, 12, 1, 11, 11, 11] rS r73_8) H := hP
  have hD : va_D (gF h0 s.heap.size) ([(h0, .inr (5, [.ref (r5 0), .ref (r16 0), .ref (r27 0), .ref (r38 0), .ref q51, .int 0, .int 0]))] ++ gG cy [0, 10] rZ r5 ++ gG cy [2, 1, 11, 11, 11] rR r16 ++ gG cy [3, 4, 12, 12, 12, 1, 11, 11, 11] rS r27 ++ gG cy [3, 4, 12, 12, 12, 1, 11, 11, 11] rS r38 ++ [(q51, .inl (cy 2, 6, .inr (.inr (.inr (.inr (f4_80))))))] ++ gG cy [3, 4, 12, 12, 12, 1, 11, 11, 11] rS r73 ++ gG cy [3, 4, 12, 12, 12, 1, 11, 11, 11] rS r73_5 ++ gG cy [3, 4, 12, 12, 12, 1, 11, 11, 11] rS r73_6 ++ gG cy [3, 4, 12, 12, 12, 1, 11, 11, 11] rS r73_7 ++ gG cy [3, 4, 12, 12, 12, 1, 11, 11, 11] rS r73_8) := hD
  refine lv_iinc (v := 5) (lv' := [(1, .int 5), (0, .ref h0)]) hx hb dX5_init_81 hl (k := 0) rfl (by decide) (by decide) rfl (fun ls hl => ?_)
  refine lv_goto (tgt := 59) hx hb dX5_init_84 (by decide) ?_
  refine lv_iload_n hx hb dX5_init_59 rfl (lv_at hl 0 rfl) ?_
  refine lv_aload_n hx hb dX5_init_60 rfl (lv_at hl 1 rfl) ?_
  refine va_get (D := D) (ci := 5) (v := .ref q51) (C := RX5) (T := TX5) (N := 7) hx hb hts hin9 hown hK.1 hP 0 rfl rfl 4 (by decide) (hts (.fieldLink RX5 33 "AdventureParser" "saved" "[LAdventureParser$State;") (by decide +kernel)) (fun _ h9 => h9) rfl dX5_init_61 ?_
  refine va_alen (v := 6) hx hb hK.1 hP 26 2 rfl rfl rfl dX5_init_64 ?_
  refine lv_icmp_ge (tgt := 87) hx hb dX5_init_65 (by decide) (fun h9 => absurd h9 (by decide)) (fun _ => ?_)
  refine lv_aload_n hx hb dX5_init_68 rfl (lv_at hl 1 rfl) ?_
  refine va_get (D := D) (ci := 5) (v := .ref q51) (C := RX5) (T := TX5) (N := 7) hx hb hts hin9 hown hK.1 hP 0 rfl rfl 4 (by decide) (hts (.fieldLink RX5 33 "AdventureParser" "saved" "[LAdventureParser$State;") (by decide +kernel)) (fun _ h9 => h9) rfl dX5_init_69 ?_
  refine lv_iload_n hx hb dX5_init_72 rfl (lv_at hl 0 rfl) ?_
  refine va_new (ci := 3) (fs := [.null, .null, .int 0, .int 0, .int 0, .int 0, .int 0, .int 0, .int 0]) (C := RX3) (T := TX3) (N := 9) hx hb hts (show ∀ w ∈ u_ws RX3 TX3 9, w ∈ wsX5_init by decide +kernel) tyX3 tyX3_ok hown (hts (.classLink RX5 23 RX3) (by decide +kernel)) (hts (.instantiable RX3 9) (by decide +kernel)) (hts (.initialized RX3) (by decide +kernel)) hK.1 hP hD hS hA rfl (show ∀ j, j < 9 → defaultValue (tyX3 j) = vp_V [.null, .null, .int 0, .int 0, .int 0, .int 0, .int 0, .int 0, .int 0] j by decide +kernel) (Nat.le_of_ble_eq_true rfl) (Nat.le_of_ble_eq_true rfl) dX5_init_73 (fun q73_9 H hP hD hS => ?_)
  refine lv_dup hx hb dX5_init_76 rfl ?_
  refine gCIN (rest := [.ref q73_9, .int 5, .ref q51]) (wr := [(h0, .inr (5, [.ref (r5 0), .ref (r16 0), .ref (r27 0), .ref (r38 0), .ref q51, .int 0, .int 0]))] ++ gG cy [0, 10] rZ r5 ++ gG cy [2, 1, 11, 11, 11] rR r16 ++ gG cy [3, 4, 12, 12, 12, 1, 11, 11, 11] rS r27 ++ gG cy [3, 4, 12, 12, 12, 1, 11, 11, 11] rS r38 ++ [(q51, .inl (cy 2, 6, .inr (.inr (.inr (.inr (f4_80))))))] ++ gG cy [3, 4, 12, 12, 12, 1, 11, 11, 11] rS r73 ++ gG cy [3, 4, 12, 12, 12, 1, 11, 11, 11] rS r73_5 ++ gG cy [3, 4, 12, 12, 12, 1, 11, 11, 11] rS r73_6 ++ gG cy [3, 4, 12, 12, 12, 1, 11, 11, 11] rS r73_7 ++ gG cy [3, 4, 12, 12, 12, 1, 11, 11, 11] rS r73_8) (q := q73_9) (e0 := .inr (3, [.null, .null, .int 0, .int 0, .int 0, .int 0, .int 0, .int 0, .int 0])) (ks := [3, 4, 12, 12, 12, 1, 11, 11, 11]) (rows := rS) ⟨hx, hb, hml, hown, hts⟩ (cX3_init_c l D cy tL z0 q73_9 H.size (gz hsub hA hD hS)) ⟨va_cnB (host := RX5) 0 hts gX5_init_X3_init_n25 rfl rfl rfl (hK.2.2.2.1 _ (List.mem_of_getElem? (i := 10) rfl)) (hts (.initialized RX3) (by decide +kernel)) (by decide +kernel) ⟨Nat.le_of_ble_eq_true rfl, Nat.le_of_ble_eq_true rfl⟩, rfl, hts (.instanceMethod yX3_init) (by decide +kernel)⟩ hsub hA hK hP hD hS hl.1 (Nat.le_of_ble_eq_true rfl) dX5_init_77 ⟨Nat.le_of_ble_eq_true rfl, Nat.le_of_ble_eq_true rfl⟩ (fun r73_9 H locs er hP9 hD9 hS9 => ?_)
  clear hP hD hS
  subst er
  have hP := hP9
  have hD := hD9
  have hS := hS9
  clear hP9 hD9 hS9
  refine va_astq (i := 5) hx hb hK.1 hP hD hS 26 2 72 3 rfl rfl rfl rfl (by unfold vp_in; decide) dX5_init_80 (fun H locs hP hD hS => ?_)
  obtain ⟨f5_80, ef5_80⟩ : ∃ z, z = va_up (f4_80) ((5 : Int32).toNatClampNeg) (some (r73_9 0)) := ⟨_, rfl⟩
  rw [← ef5_80] at hP hD
  have hP : va_P D vwCl ([(h0, .inr (5, [.ref (r5 0), .ref (r16 0), .ref (r27 0), .ref (r38 0), .ref q51, .int 0, .int 0]))] ++ gG cy [0, 10] rZ r5 ++ gG cy [2, 1, 11, 11, 11] rR r16 ++ gG cy [3, 4, 12, 12, 12, 1, 11, 11, 11] rS r27 ++ gG cy [3, 4, 12, 12, 12, 1, 11, 11, 11] rS r38 ++ [(q51, .inl (cy 2, 6, .inr (.inr (.inr (.inr (f5_80))))))] ++ gG cy [3, 4, 12, 12, 12, 1, 11, 11, 11] rS r73 ++ gG cy [3, 4, 12, 12, 12, 1, 11, 11, 11] rS r73_5 ++ gG cy [3, 4, 12, 12, 12, 1, 11, 11, 11] rS r73_6 ++ gG cy [3, 4, 12, 12, 12, 1, 11, 11, 11] rS r73_7 ++ gG cy [3, 4, 12, 12, 12, 1, 11, 11, 11] rS r73_8 ++ gG cy [3, 4, 12, 12, 12, 1, 11, 11, 11] rS r73_9) H := hP
  have hD : va_D (gF h0 s.heap.size) ([(h0, .inr (5, [.ref (r5 0), .ref (r16 0), .ref (r27 0), .ref (r38 0), .ref q51, .int 0, .int 0]))] ++ gG cy [0, 10] rZ r5 ++ gG cy [2, 1, 11, 11, 11] rR r16 ++ gG cy [3, 4, 12, 12, 12, 1, 11, 11, 11] rS r27 ++ gG cy [3, 4, 12, 12, 12, 1, 11, 11, 11] rS r38 ++ [(q51, .inl (cy 2, 6, .inr (.inr (.inr (.inr (f5_80))))))] ++ gG cy [3, 4, 12, 12, 12, 1, 11, 11, 11] rS r73 ++ gG cy [3, 4, 12, 12, 12, 1, 11, 11, 11] rS r73_5 ++ gG cy [3, 4, 12, 12, 12, 1, 11, 11, 11] rS r73_6 ++ gG cy [3, 4, 12, 12, 12, 1, 11, 11, 11] rS r73_7 ++ gG cy [3, 4, 12, 12, 12, 1, 11, 11, 11] rS r73_8 ++ gG cy [3, 4, 12, 12, 12, 1, 11, 11, 11] rS r73_9) := hD
  refine lv_iinc (v := 6) (lv' := [(1, .int 6), (0, .ref h0)]) hx hb dX5_init_81 hl (k := 0) rfl (by decide) (by decide) rfl (fun ls hl => ?_)
  refine lv_goto (tgt := 59) hx hb dX5_init_84 (by decide) ?_
  refine lv_iload_n hx hb dX5_init_59 rfl (lv_at hl 0 rfl) ?_
  refine lv_aload_n hx hb dX5_init_60 rfl (lv_at hl 1 rfl) ?_
  refine va_get (D := D) (ci := 5) (v := .ref q51) (C := RX5) (T := TX5) (N := 7) hx hb hts hin9 hown hK.1 hP 0 rfl rfl 4 (by decide) (hts (.fieldLink RX5 33 "AdventureParser" "saved" "[LAdventureParser$State;") (by decide +kernel)) (fun _ h9 => h9) rfl dX5_init_61 ?_
  refine va_alen (v := 6) hx hb hK.1 hP 26 2 rfl rfl rfl dX5_init_64 ?_
  refine lv_icmp_ge (tgt := 87) hx hb dX5_init_65 (by decide) (fun _ => ?_) (fun h9 => absurd (by decide) h9)
  obtain ⟨q, eq⟩ : ∃ q : Nat → Nat, q = (fun j => if j < 1 then h0 else if j < 3 then r5 (j - 1) else if j < 8 then r16 (j - 3) else if j < 17 then r27 (j - 8) else if j < 26 then r38 (j - 17) else if j < 27 then q51 else if j < 36 then r73 (j - 27) else if j < 45 then r73_5 (j - 36) else if j < 54 then r73_6 (j - 45) else if j < 63 then r73_7 (j - 54) else if j < 72 then r73_8 (j - 63) else r73_9 (j - 72)) := ⟨_, rfl⟩
  have hf : ∀ j, j < 6 → f5_80 j = (fun j => some (q (27 + 9 * j))) j := by
    rw [eq]
    refine lt_s (lt_s (lt_s (lt_s (lt_s (lt_s (lt_0) (?_)) (?_)) (?_)) (?_)) (?_)) (?_)
    · rw [ef5_80, show (5 : Int32).toNatClampNeg = 5 from rfl, va_up_ne _ _ (by decide)]; rw [ef4_80, show (4 : Int32).toNatClampNeg = 4 from rfl, va_up_ne _ _ (by decide)]; rw [ef3_80, show (3 : Int32).toNatClampNeg = 3 from rfl, va_up_ne _ _ (by decide)]; rw [ef2_80, show (2 : Int32).toNatClampNeg = 2 from rfl, va_up_ne _ _ (by decide)]; rw [ef1_80, show (1 : Int32).toNatClampNeg = 1 from rfl, va_up_ne _ _ (by decide)]; rw [ef0_80]; rfl
    · rw [ef5_80, show (5 : Int32).toNatClampNeg = 5 from rfl, va_up_ne _ _ (by decide)]; rw [ef4_80, show (4 : Int32).toNatClampNeg = 4 from rfl, va_up_ne _ _ (by decide)]; rw [ef3_80, show (3 : Int32).toNatClampNeg = 3 from rfl, va_up_ne _ _ (by decide)]; rw [ef2_80, show (2 : Int32).toNatClampNeg = 2 from rfl, va_up_ne _ _ (by decide)]; rw [ef1_80]; rfl
    · rw [ef5_80, show (5 : Int32).toNatClampNeg = 5 from rfl, va_up_ne _ _ (by decide)]; rw [ef4_80, show (4 : Int32).toNatClampNeg = 4 from rfl, va_up_ne _ _ (by decide)]; rw [ef3_80, show (3 : Int32).toNatClampNeg = 3 from rfl, va_up_ne _ _ (by decide)]; rw [ef2_80]; rfl
    · rw [ef5_80, show (5 : Int32).toNatClampNeg = 5 from rfl, va_up_ne _ _ (by decide)]; rw [ef4_80, show (4 : Int32).toNatClampNeg = 4 from rfl, va_up_ne _ _ (by decide)]; rw [ef3_80]; rfl
    · rw [ef5_80, show (5 : Int32).toNatClampNeg = 5 from rfl, va_up_ne _ _ (by decide)]; rw [ef4_80]; rfl
    · rw [ef5_80]; rfl
  have g26 : va_at D vwCl (q 26, gEr cy q 0 26 (iv 26) (kd 26)) H := by
    have h26 := hP 26 _ rfl
    rw [show q 26 = q51 by rw [eq]; rfl]
    show H[q51]? = some (vp_cell (cy 2) (6, .inr (.inr (.inr (.inr (fun j => some (q (27 + 9 * j))))))))
    rw [← g_arr hf]
    exact h26
  have h1 : ∀ k, k < 81 → va_at D vwCl (q k, gEr cy q 0 k (iv k) (kd k)) H := by
    subst eq
    exact lt_s (lt_s (lt_s (lt_s (lt_s (lt_s (lt_s (lt_s (lt_s (lt_s (lt_s (lt_s (lt_s (lt_s (lt_s (lt_s (lt_s (lt_s (lt_s (lt_s (lt_s (lt_s (lt_s (lt_s (lt_s (lt_s (lt_s (lt_s (lt_s (lt_s (lt_s (lt_s (lt_s (lt_s (lt_s (lt_s (lt_s (lt_s (lt_s (lt_s (lt_s (lt_s (lt_s (lt_s (lt_s (lt_s (lt_s (lt_s (lt_s (lt_s (lt_s (lt_s (lt_s (lt_s (lt_s (lt_s (lt_s (lt_s (lt_s (lt_s (lt_s (lt_s (lt_s (lt_s (lt_s (lt_s (lt_s (lt_s (lt_s (lt_s (lt_s (lt_s (lt_s (lt_s (lt_s (lt_s (lt_s (lt_s (lt_s (lt_s (lt_s (lt_0) (hP 0 _ rfl)) (hP 1 _ rfl)) (hP 2 _ rfl)) (hP 3 _ rfl)) (hP 4 _ rfl)) (hP 5 _ rfl)) (hP 6 _ rfl)) (hP 7 _ rfl)) (hP 8 _ rfl)) (hP 9 _ rfl)) (hP 10 _ rfl)) (hP 11 _ rfl)) (hP 12 _ rfl)) (hP 13 _ rfl)) (hP 14 _ rfl)) (hP 15 _ rfl)) (hP 16 _ rfl)) (hP 17 _ rfl)) (hP 18 _ rfl)) (hP 19 _ rfl)) (hP 20 _ rfl)) (hP 21 _ rfl)) (hP 22 _ rfl)) (hP 23 _ rfl)) (hP 24 _ rfl)) (hP 25 _ rfl)) (g26)) (hP 27 _ rfl)) (hP 28 _ rfl)) (hP 29 _ rfl)) (hP 30 _ rfl)) (hP 31 _ rfl)) (hP 32 _ rfl)) (hP 33 _ rfl)) (hP 34 _ rfl)) (hP 35 _ rfl)) (hP 36 _ rfl)) (hP 37 _ rfl)) (hP 38 _ rfl)) (hP 39 _ rfl)) (hP 40 _ rfl)) (hP 41 _ rfl)) (hP 42 _ rfl)) (hP 43 _ rfl)) (hP 44 _ rfl)) (hP 45 _ rfl)) (hP 46 _ rfl)) (hP 47 _ rfl)) (hP 48 _ rfl)) (hP 49 _ rfl)) (hP 50 _ rfl)) (hP 51 _ rfl)) (hP 52 _ rfl)) (hP 53 _ rfl)) (hP 54 _ rfl)) (hP 55 _ rfl)) (hP 56 _ rfl)) (hP 57 _ rfl)) (hP 58 _ rfl)) (hP 59 _ rfl)) (hP 60 _ rfl)) (hP 61 _ rfl)) (hP 62 _ rfl)) (hP 63 _ rfl)) (hP 64 _ rfl)) (hP 65 _ rfl)) (hP 66 _ rfl)) (hP 67 _ rfl)) (hP 68 _ rfl)) (hP 69 _ rfl)) (hP 70 _ rfl)) (hP 71 _ rfl)) (hP 72 _ rfl)) (hP 73 _ rfl)) (hP 74 _ rfl)) (hP 75 _ rfl)) (hP 76 _ rfl)) (hP 77 _ rfl)) (hP 78 _ rfl)) (hP 79 _ rfl)) (hP 80 _ rfl)
  have h2 := g_addr (q := q) (n := 81) hD (by subst eq; exact lt_s (lt_s (lt_s (lt_s (lt_s (lt_s (lt_s (lt_s (lt_s (lt_s (lt_s (lt_s (lt_s (lt_s (lt_s (lt_s (lt_s (lt_s (lt_s (lt_s (lt_s (lt_s (lt_s (lt_s (lt_s (lt_s (lt_s (lt_s (lt_s (lt_s (lt_s (lt_s (lt_s (lt_s (lt_s (lt_s (lt_s (lt_s (lt_s (lt_s (lt_s (lt_s (lt_s (lt_s (lt_s (lt_s (lt_s (lt_s (lt_s (lt_s (lt_s (lt_s (lt_s (lt_s (lt_s (lt_s (lt_s (lt_s (lt_s (lt_s (lt_s (lt_s (lt_s (lt_s (lt_s (lt_s (lt_s (lt_s (lt_s (lt_s (lt_s (lt_s (lt_s (lt_s (lt_s (lt_s (lt_s (lt_s (lt_s (lt_s (lt_s (lt_0) (⟨_, rfl⟩)) (⟨_, rfl⟩)) (⟨_, rfl⟩)) (⟨_, rfl⟩)) (⟨_, rfl⟩)) (⟨_, rfl⟩)) (⟨_, rfl⟩)) (⟨_, rfl⟩)) (⟨_, rfl⟩)) (⟨_, rfl⟩)) (⟨_, rfl⟩)) (⟨_, rfl⟩)) (⟨_, rfl⟩)) (⟨_, rfl⟩)) (⟨_, rfl⟩)) (⟨_, rfl⟩)) (⟨_, rfl⟩)) (⟨_, rfl⟩)) (⟨_, rfl⟩)) (⟨_, rfl⟩)) (⟨_, rfl⟩)) (⟨_, rfl⟩)) (⟨_, rfl⟩)) (⟨_, rfl⟩)) (⟨_, rfl⟩)) (⟨_, rfl⟩)) (⟨_, rfl⟩)) (⟨_, rfl⟩)) (⟨_, rfl⟩)) (⟨_, rfl⟩)) (⟨_, rfl⟩)) (⟨_, rfl⟩)) (⟨_, rfl⟩)) (⟨_, rfl⟩)) (⟨_, rfl⟩)) (⟨_, rfl⟩)) (⟨_, rfl⟩)) (⟨_, rfl⟩)) (⟨_, rfl⟩)) (⟨_, rfl⟩)) (⟨_, rfl⟩)) (⟨_, rfl⟩)) (⟨_, rfl⟩)) (⟨_, rfl⟩)) (⟨_, rfl⟩)) (⟨_, rfl⟩)) (⟨_, rfl⟩)) (⟨_, rfl⟩)) (⟨_, rfl⟩)) (⟨_, rfl⟩)) (⟨_, rfl⟩)) (⟨_, rfl⟩)) (⟨_, rfl⟩)) (⟨_, rfl⟩)) (⟨_, rfl⟩)) (⟨_, rfl⟩)) (⟨_, rfl⟩)) (⟨_, rfl⟩)) (⟨_, rfl⟩)) (⟨_, rfl⟩)) (⟨_, rfl⟩)) (⟨_, rfl⟩)) (⟨_, rfl⟩)) (⟨_, rfl⟩)) (⟨_, rfl⟩)) (⟨_, rfl⟩)) (⟨_, rfl⟩)) (⟨_, rfl⟩)) (⟨_, rfl⟩)) (⟨_, rfl⟩)) (⟨_, rfl⟩)) (⟨_, rfl⟩)) (⟨_, rfl⟩)) (⟨_, rfl⟩)) (⟨_, rfl⟩)) (⟨_, rfl⟩)) (⟨_, rfl⟩)) (⟨_, rfl⟩)) (⟨_, rfl⟩)) (⟨_, rfl⟩)) (⟨_, rfl⟩))
  refine W.widen (k := 80) (n := 767) (Nat.le_of_ble_eq_true rfl) (Nat.le_of_ble_eq_true rfl) ?_
  exact W.vret hx hb hr (fun t ht hW => ⟨⟨q, rfl, trivial, by rw [eq]; rfl, by rw [ht]; exact h1, h2.1, h2.2⟩, hS.F ht⟩) hS.2.2 dX5_init_87
