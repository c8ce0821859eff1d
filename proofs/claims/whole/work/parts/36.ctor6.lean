set_option maxHeartbeats 8000000 in
set_option maxRecDepth 100000 in
theorem cX6_init_c (l : Launch) (D : va_G) (cy : Nat → ClassId) (tL z0 h0 sz : Nat) (hz : z0 ≤ h0 ∧ z0 ≤ sz) : Met l yX6_init wsX6_init ({ frames := 1, cells := 7, slots := 1178, locals := 12 } : Room) (gPi D cy tL z0 h0 sz (.inr (6, [.null, .null, .null, .null, .null, .int 0, .null, .int 0, .int 0, .null, .int 0, .int 0, .int 0, .int 0, .int 0, .int 0, .int 0]))) (gQ6 D cy h0 sz) 7 1178 (gF h0 sz) := by
  refine Met.ofW (cc := cX6_init) (maxL := 1) (ret := none) (by decide) rfl ?_
  intro p e s m args below meth c s₁ B hml hv
  obtain ⟨rfl, hsz, hP, hK⟩ := hv
  have hx := B.exec
  have hb := B.bytes
  have hr := B.returns
  have hts := atoms_spec (ws := wsX6_init) B.pre
  have hown : s.vm.findClass RX6 = some m.cls := findClass_of_methodNamed B.named
  have hlocks := B.notSynchronized
  have hin : meth.name = "<init>" := (name_of_methodNamed B.named B.method).1
  subst hsz
  have hD : va_D (gF h0 s.heap.size) [(h0, .inr (6, [.null, .null, .null, .null, .null, .int 0, .null, .int 0, .int 0, .null, .int 0, .int 0, .int 0, .int 0, .int 0, .int 0, .int 0]))] := gD1
  have hA : ∀ q : Nat, s.heap.size ≤ q → gF h0 s.heap.size q := fun q h => Or.inr h
  have hS : va_S (gF h0 s.heap.size) s.heap s.heap [] := va_S.rf
  have hsub : ∀ a, gF h0 s.heap.size a → gA z0 a := fun a h => h.elim (fun q => by rw [q]; exact hz.1) (fun q => Nat.le_trans hz.2 q)
  have hP : va_P D vwCl [(h0, .inr (6, [.null, .null, .null, .null, .null, .int 0, .null, .int 0, .int 0, .null, .int 0, .int 0, .int 0, .int 0, .int 0, .int 0, .int 0]))] s.heap := hP
  have hin9 : ∀ w ∈ u_ws RX6 TX6 17, w ∈ wsX6_init := by decide +kernel
  have hl := lv_entry ([.ref h0]) (n := 1) (Nat.le_of_ble_eq_true rfl)
  rw [lg_entry_eq]
  generalize (lg_sl ([.ref h0]) ++ List.replicate (1 - (lg_sl ([.ref h0])).length) Slot.unset).toArray = ls at hl ⊢
  have hl : lv_has ls 1 [(0, .ref h0)] := hl
  refine lv_aload_n hx hb dX6_init_0 rfl (lv_at hl 0 rfl) ?_
  refine W.objInit hx hb hown (hts (.methodLink RX6 1 objectInit) (by decide +kernel)) (hts (.instanceMethod objectInit) (by decide +kernel)) (hts (.code objectInit ⟨#[0xb1]⟩ 1 none) (by decide +kernel)) rfl (by rw [hml]; exact hl.1) rfl dX6_init_1 (Nat.le_of_ble_eq_true rfl) (Nat.le_of_ble_eq_true rfl) ?_
  refine W.eq (g2 := F0 m 4 ls []) rfl ?_
  refine lv_aload_n hx hb dX6_init_4 rfl (lv_at hl 0 rfl) ?_
  refine lv_bipush (v := 85) hx hb dX6_init_5 (by decide) ?_
  refine va_newa (atype := .int) (ty := .int) (a0 := (85, .inl (fun _ => 0))) (N' := 85) hx hb (hts (.arrayClass .int) (by decide +kernel)) rfl hK.1 hP hD hS hA (fun _ => rfl) (by decide) (by decide) (by decide) (Nat.le_of_ble_eq_true rfl) (Nat.le_of_ble_eq_true rfl) dX6_init_7 (fun q7 cA H hKn hP hD hS => ?_)
  have eA := gcy_i hKn
  subst eA
  have hP : va_P D vwCl ([(h0, .inr (6, [.null, .null, .null, .null, .null, .int 0, .null, .int 0, .int 0, .null, .int 0, .int 0, .int 0, .int 0, .int 0, .int 0, .int 0])), (q7, .inl (cy 0, 85, .inl (fun _ => 0)))]) H := hP
  have hD : va_D (gF h0 s.heap.size) ([(h0, .inr (6, [.null, .null, .null, .null, .null, .int 0, .null, .int 0, .int 0, .null, .int 0, .int 0, .int 0, .int 0, .int 0, .int 0, .int 0])), (q7, .inl (cy 0, 85, .inl (fun _ => 0)))]) := hD
  refine lv_dup hx hb dX6_init_9 rfl ?_
  refine lv_iconst (v := 0) hx hb dX6_init_10 (by decide) ?_
  refine lv_bipush (v := 108) hx hb dX6_init_11 (by decide) ?_
  refine va_iast (i := 0) hx hb hK.1 hP hD hS 1 0 rfl rfl (by unfold vp_in; decide) dX6_init_13 (fun H locs hP hD hS => ?_)
  obtain ⟨f13, ef13⟩ : ∃ z, z = upd (fun _ => 0) ((0 : Int32).toNatClampNeg) 108 := ⟨_, rfl⟩
  rw [← ef13] at hP hD
  have tf13 : ∀ j, j < 1 → f13 j = gTabL.getD j 0 := by rw [ef13]; exact g_tab (i := 0) lt_0 rfl
  clear ef13
  have hP : va_P D vwCl ([(h0, .inr (6, [.null, .null, .null, .null, .null, .int 0, .null, .int 0, .int 0, .null, .int 0, .int 0, .int 0, .int 0, .int 0, .int 0, .int 0])), (q7, .inl (cy 0, 85, .inl f13))]) H := hP
  have hD : va_D (gF h0 s.heap.size) ([(h0, .inr (6, [.null, .null, .null, .null, .null, .int 0, .null, .int 0, .int 0, .null, .int 0, .int 0, .int 0, .int 0, .int 0, .int 0, .int 0])), (q7, .inl (cy 0, 85, .inl f13))]) := hD
  refine lv_dup hx hb dX6_init_14 rfl ?_
  refine lv_iconst (v := 1) hx hb dX6_init_15 (by decide) ?_
  refine lv_bipush (v := 97) hx hb dX6_init_16 (by decide) ?_
  refine va_iast (i := 1) hx hb hK.1 hP hD hS 1 0 rfl rfl (by unfold vp_in; decide) dX6_init_18 (fun H locs hP hD hS => ?_)
  obtain ⟨f18, ef18⟩ : ∃ z, z = upd f13 ((1 : Int32).toNatClampNeg) 97 := ⟨_, rfl⟩
  rw [← ef18] at hP hD
  have tf18 : ∀ j, j < 2 → f18 j = gTabL.getD j 0 := by rw [ef18]; exact g_tab (i := 1) tf13 rfl
  clear ef18 tf13
  have hP : va_P D vwCl ([(h0, .inr (6, [.null, .null, .null, .null, .null, .int 0, .null, .int 0, .int 0, .null, .int 0, .int 0, .int 0, .int 0, .int 0, .int 0, .int 0])), (q7, .inl (cy 0, 85, .inl f18))]) H := hP
  have hD : va_D (gF h0 s.heap.size) ([(h0, .inr (6, [.null, .null, .null, .null, .null, .int 0, .null, .int 0, .int 0, .null, .int 0, .int 0, .int 0, .int 0, .int 0, .int 0, .int 0])), (q7, .inl (cy 0, 85, .inl f18))]) := hD
  refine lv_dup hx hb dX6_init_19 rfl ?_
  refine lv_iconst (v := 2) hx hb dX6_init_20 (by decide) ?_
  refine lv_bipush (v := 109) hx hb dX6_init_21 (by decide) ?_
  refine va_iast (i := 2) hx hb hK.1 hP hD hS 1 0 rfl rfl (by unfold vp_in; decide) dX6_init_23 (fun H locs hP hD hS => ?_)
  obtain ⟨f23, ef23⟩ : ∃ z, z = upd f18 ((2 : Int32).toNatClampNeg) 109 := ⟨_, rfl⟩
  rw [← ef23] at hP hD
  have tf23 : ∀ j, j < 3 → f23 j = gTabL.getD j 0 := by rw [ef23]; exact g_tab (i := 2) tf18 rfl
  clear ef23 tf18
  have hP : va_P D vwCl ([(h0, .inr (6, [.null, .null, .null, .null, .null, .int 0, .null, .int 0, .int 0, .null, .int 0, .int 0, .int 0, .int 0, .int 0, .int 0, .int 0])), (q7, .inl (cy 0, 85, .inl f23))]) H := hP
  have hD : va_D (gF h0 s.heap.size) ([(h0, .inr (6, [.null, .null, .null, .null, .null, .int 0, .null, .int 0, .int 0, .null, .int 0, .int 0, .int 0, .int 0, .int 0, .int 0, .int 0])), (q7, .inl (cy 0, 85, .inl f23))]) := hD
  refine lv_dup hx hb dX6_init_24 rfl ?_
  refine lv_iconst (v := 3) hx hb dX6_init_25 (by decide) ?_
  refine lv_bipush (v := 112) hx hb dX6_init_26 (by decide) ?_
  refine va_iast (i := 3) hx hb hK.1 hP hD hS 1 0 rfl rfl (by unfold vp_in; decide) dX6_init_28 (fun H locs hP hD hS => ?_)
  obtain ⟨f28, ef28⟩ : ∃ z, z = upd f23 ((3 : Int32).toNatClampNeg) 112 := ⟨_, rfl⟩
  rw [← ef28] at hP hD
  have tf28 : ∀ j, j < 4 → f28 j = gTabL.getD j 0 := by rw [ef28]; exact g_tab (i := 3) tf23 rfl
  clear ef28 tf23
  have hP : va_P D vwCl ([(h0, .inr (6, [.null, .null, .null, .null, .null, .int 0, .null, .int 0, .int 0, .null, .int 0, .int 0, .int 0, .int 0, .int 0, .int 0, .int 0])), (q7, .inl (cy 0, 85, .inl f28))]) H := hP
  have hD : va_D (gF h0 s.heap.size) ([(h0, .inr (6, [.null, .null, .null, .null, .null, .int 0, .null, .int 0, .int 0, .null, .int 0, .int 0, .int 0, .int 0, .int 0, .int 0, .int 0])), (q7, .inl (cy 0, 85, .inl f28))]) := hD
  refine lv_dup hx hb dX6_init_29 rfl ?_
  refine lv_iconst (v := 4) hx hb dX6_init_30 (by decide) ?_
  refine lv_bipush (v := 98) hx hb dX6_init_31 (by decide) ?_
  refine va_iast (i := 4) hx hb hK.1 hP hD hS 1 0 rfl rfl (by unfold vp_in; decide) dX6_init_33 (fun H locs hP hD hS => ?_)
  obtain ⟨f33, ef33⟩ : ∃ z, z = upd f28 ((4 : Int32).toNatClampNeg) 98 := ⟨_, rfl⟩
  rw [← ef33] at hP hD
  have tf33 : ∀ j, j < 5 → f33 j = gTabL.getD j 0 := by rw [ef33]; exact g_tab (i := 4) tf28 rfl
  clear ef33 tf28
  have hP : va_P D vwCl ([(h0, .inr (6, [.null, .null, .null, .null, .null, .int 0, .null, .int 0, .int 0, .null, .int 0, .int 0, .int 0, .int 0, .int 0, .int 0, .int 0])), (q7, .inl (cy 0, 85, .inl f33))]) H := hP
  have hD : va_D (gF h0 s.heap.size) ([(h0, .inr (6, [.null, .null, .null, .null, .null, .int 0, .null, .int 0, .int 0, .null, .int 0, .int 0, .int 0, .int 0, .int 0, .int 0, .int 0])), (q7, .inl (cy 0, 85, .inl f33))]) := hD
  refine lv_dup hx hb dX6_init_34 rfl ?_
  refine lv_iconst (v := 5) hx hb dX6_init_35 (by decide) ?_
  refine lv_bipush (v := 111) hx hb dX6_init_36 (by decide) ?_
  refine va_iast (i := 5) hx hb hK.1 hP hD hS 1 0 rfl rfl (by unfold vp_in; decide) dX6_init_38 (fun H locs hP hD hS => ?_)
  obtain ⟨f38, ef38⟩ : ∃ z, z = upd f33 ((5 : Int32).toNatClampNeg) 111 := ⟨_, rfl⟩
  rw [← ef38] at hP hD
  have tf38 : ∀ j, j < 6 → f38 j = gTabL.getD j 0 := by rw [ef38]; exact g_tab (i := 5) tf33 rfl
  clear ef38 tf33
  have hP : va_P D vwCl ([(h0, .inr (6, [.null, .null, .null, .null, .null, .int 0, .null, .int 0, .int 0, .null, .int 0, .int 0, .int 0, .int 0, .int 0, .int 0, .int 0])), (q7, .inl (cy 0, 85, .inl f38))]) H := hP
  have hD : va_D (gF h0 s.heap.size) ([(h0, .inr (6, [.null, .null, .null, .null, .null, .int 0, .null, .int 0, .int 0, .null, .int 0, .int 0, .int 0, .int 0, .int 0, .int 0, .int 0])), (q7, .inl (cy 0, 85, .inl f38))]) := hD
  refine lv_dup hx hb dX6_init_39 rfl ?_
  refine lv_bipush (v := 6) hx hb dX6_init_40 (by decide) ?_
  refine lv_bipush (v := 120) hx hb dX6_init_42 (by decide) ?_
  refine va_iast (i := 6) hx hb hK.1 hP hD hS 1 0 rfl rfl (by unfold vp_in; decide) dX6_init_44 (fun H locs hP hD hS => ?_)
  obtain ⟨f44, ef44⟩ : ∃ z, z = upd f38 ((6 : Int32).toNatClampNeg) 120 := ⟨_, rfl⟩
  rw [← ef44] at hP hD
  have tf44 : ∀ j, j < 7 → f44 j = gTabL.getD j 0 := by rw [ef44]; exact g_tab (i := 6) tf38 rfl
  clear ef44 tf38
  have hP : va_P D vwCl ([(h0, .inr (6, [.null, .null, .null, .null, .null, .int 0, .null, .int 0, .int 0, .null, .int 0, .int 0, .int 0, .int 0, .int 0, .int 0, .int 0])), (q7, .inl (cy 0, 85, .inl f44))]) H := hP
  have hD : va_D (gF h0 s.heap.size) ([(h0, .inr (6, [.null, .null, .null, .null, .null, .int 0, .null, .int 0, .int 0, .null, .int 0, .int 0, .int 0, .int 0, .int 0, .int 0, .int 0])), (q7, .inl (cy 0, 85, .inl f44))]) := hD
  refine lv_dup hx hb dX6_init_45 rfl ?_
  refine lv_bipush (v := 7) hx hb dX6_init_46 (by decide) ?_
  refine lv_bipush (v := 107) hx hb dX6_init_48 (by decide) ?_
  refine va_iast (i := 7) hx hb hK.1 hP hD hS 1 0 rfl rfl (by unfold vp_in; decide) dX6_init_50 (fun H locs hP hD hS => ?_)
  obtain ⟨f50, ef50⟩ : ∃ z, z = upd f44 ((7 : Int32).toNatClampNeg) 107 := ⟨_, rfl⟩
  rw [← ef50] at hP hD
  have tf50 : ∀ j, j < 8 → f50 j = gTabL.getD j 0 := by rw [ef50]; exact g_tab (i := 7) tf44 rfl
  clear ef50 tf44
  have hP : va_P D vwCl ([(h0, .inr (6, [.null, .null, .null, .null, .null, .int 0, .null, .int 0, .int 0, .null, .int 0, .int 0, .int 0, .int 0, .int 0, .int 0, .int 0])), (q7, .inl (cy 0, 85, .inl f50))]) H := hP
  have hD : va_D (gF h0 s.heap.size) ([(h0, .inr (6, [.null, .null, .null, .null, .null, .int 0, .null, .int 0, .int 0, .null, .int 0, .int 0, .int 0, .int 0, .int 0, .int 0, .int 0])), (q7, .inl (cy 0, 85, .inl f50))]) := hD
  refine lv_dup hx hb dX6_init_51 rfl ?_
  refine lv_bipush (v := 8) hx hb dX6_init_52 (by decide) ?_
  refine lv_bipush (v := 101) hx hb dX6_init_54 (by decide) ?_
  refine va_iast (i := 8) hx hb hK.1 hP hD hS 1 0 rfl rfl (by unfold vp_in; decide) dX6_init_56 (fun H locs hP hD hS => ?_)
  obtain ⟨f56, ef56⟩ : ∃ z, z = upd f50 ((8 : Int32).toNatClampNeg) 101 := ⟨_, rfl⟩
  rw [← ef56] at hP hD
  have tf56 : ∀ j, j < 9 → f56 j = gTabL.getD j 0 := by rw [ef56]; exact g_tab (i := 8) tf50 rfl
  clear ef56 tf50
  have hP : va_P D vwCl ([(h0, .inr (6, [.null, .null, .null, .null, .null, .int 0, .null, .int 0, .int 0, .null, .int 0, .int 0, .int 0, .int 0, .int 0, .int 0, .int 0])), (q7, .inl (cy 0, 85, .inl f56))]) H := hP
  have hD : va_D (gF h0 s.heap.size) ([(h0, .inr (6, [.null, .null, .null, .null, .null, .int 0, .null, .int 0, .int 0, .null, .int 0, .int 0, .int 0, .int 0, .int 0, .int 0, .int 0])), (q7, .inl (cy 0, 85, .inl f56))]) := hD
  refine lv_dup hx hb dX6_init_57 rfl ?_
  refine lv_bipush (v := 9) hx hb dX6_init_58 (by decide) ?_
  refine lv_bipush (v := 121) hx hb dX6_init_60 (by decide) ?_
  refine va_iast (i := 9) hx hb hK.1 hP hD hS 1 0 rfl rfl (by unfold vp_in; decide) dX6_init_62 (fun H locs hP hD hS => ?_)
  obtain ⟨f62, ef62⟩ : ∃ z, z = upd f56 ((9 : Int32).toNatClampNeg) 121 := ⟨_, rfl⟩
  rw [← ef62] at hP hD
  have tf62 : ∀ j, j < 10 → f62 j = gTabL.getD j 0 := by rw [ef62]; exact g_tab (i := 9) tf56 rfl
  clear ef62 tf56
  have hP : va_P D vwCl ([(h0, .inr (6, [.null, .null, .null, .null, .null, .int 0, .null, .int 0, .int 0, .null, .int 0, .int 0, .int 0, .int 0, .int 0, .int 0, .int 0])), (q7, .inl (cy 0, 85, .inl f62))]) H := hP
  have hD : va_D (gF h0 s.heap.size) ([(h0, .inr (6, [.null, .null, .null, .null, .null, .int 0, .null, .int 0, .int 0, .null, .int 0, .int 0, .int 0, .int 0, .int 0, .int 0, .int 0])), (q7, .inl (cy 0, 85, .inl f62))]) := hD
  refine lv_dup hx hb dX6_init_63 rfl ?_
  refine lv_bipush (v := 10) hx hb dX6_init_64 (by decide) ?_
  refine lv_bipush (v := 99) hx hb dX6_init_66 (by decide) ?_
  refine va_iast (i := 10) hx hb hK.1 hP hD hS 1 0 rfl rfl (by unfold vp_in; decide) dX6_init_68 (fun H locs hP hD hS => ?_)
  obtain ⟨f68, ef68⟩ : ∃ z, z = upd f62 ((10 : Int32).toNatClampNeg) 99 := ⟨_, rfl⟩
  rw [← ef68] at hP hD
  have tf68 : ∀ j, j < 11 → f68 j = gTabL.getD j 0 := by rw [ef68]; exact g_tab (i := 10) tf62 rfl
  clear ef68 tf62
  have hP : va_P D vwCl ([(h0, .inr (6, [.null, .null, .null, .null, .null, .int 0, .null, .int 0, .int 0, .null, .int 0, .int 0, .int 0, .int 0, .int 0, .int 0, .int 0])), (q7, .inl (cy 0, 85, .inl f68))]) H := hP
  have hD : va_D (gF h0 s.heap.size) ([(h0, .inr (6, [.null, .null, .null, .null, .null, .int 0, .null, .int 0, .int 0, .null, .int 0, .int 0, .int 0, .int 0, .int 0, .int 0, .int 0])), (q7, .inl (cy 0, 85, .inl f68))]) := hD
  refine lv_dup hx hb dX6_init_69 rfl ?_
  refine lv_bipush (v := 11) hx hb dX6_init_70 (by decide) ?_
  refine lv_bipush (v := 111) hx hb dX6_init_72 (by decide) ?_
  refine va_iast (i := 11) hx hb hK.1 hP hD hS 1 0 rfl rfl (by unfold vp_in; decide) dX6_init_74 (fun H locs hP hD hS => ?_)
  obtain ⟨f74, ef74⟩ : ∃ z, z = upd f68 ((11 : Int32).toNatClampNeg) 111 := ⟨_, rfl⟩
  rw [← ef74] at hP hD
  have tf74 : ∀ j, j < 12 → f74 j = gTabL.getD j 0 := by rw [ef74]; exact g_tab (i := 11) tf68 rfl
  clear ef74 tf68
  have hP : va_P D vwCl ([(h0, .inr (6, [.null, .null, .null, .null, .null, .int 0, .null, .int 0, .int 0, .null, .int 0, .int 0, .int 0, .int 0, .int 0, .int 0, .int 0])), (q7, .inl (cy 0, 85, .inl f74))]) H := hP
  have hD : va_D (gF h0 s.heap.size) ([(h0, .inr (6, [.null, .null, .null, .null, .null, .int 0, .null, .int 0, .int 0, .null, .int 0, .int 0, .int 0, .int 0, .int 0, .int 0, .int 0])), (q7, .inl (cy 0, 85, .inl f74))]) := hD
  refine lv_dup hx hb dX6_init_75 rfl ?_
  refine lv_bipush (v := 12) hx hb dX6_init_76 (by decide) ?_
  refine lv_bipush (v := 105) hx hb dX6_init_78 (by decide) ?_
  refine va_iast (i := 12) hx hb hK.1 hP hD hS 1 0 rfl rfl (by unfold vp_in; decide) dX6_init_80 (fun H locs hP hD hS => ?_)
  obtain ⟨f80, ef80⟩ : ∃ z, z = upd f74 ((12 : Int32).toNatClampNeg) 105 := ⟨_, rfl⟩
  rw [← ef80] at hP hD
  have tf80 : ∀ j, j < 13 → f80 j = gTabL.getD j 0 := by rw [ef80]; exact g_tab (i := 12) tf74 rfl
  clear ef80 tf74
  have hP : va_P D vwCl ([(h0, .inr (6, [.null, .null, .null, .null, .null, .int 0, .null, .int 0, .int 0, .null, .int 0, .int 0, .int 0, .int 0, .int 0, .int 0, .int 0])), (q7, .inl (cy 0, 85, .inl f80))]) H := hP
  have hD : va_D (gF h0 s.heap.size) ([(h0, .inr (6, [.null, .null, .null, .null, .null, .int 0, .null, .int 0, .int 0, .null, .int 0, .int 0, .int 0, .int 0, .int 0, .int 0, .int 0])), (q7, .inl (cy 0, 85, .inl f80))]) := hD
  refine lv_dup hx hb dX6_init_81 rfl ?_
  refine lv_bipush (v := 13) hx hb dX6_init_82 (by decide) ?_
  refine lv_bipush (v := 110) hx hb dX6_init_84 (by decide) ?_
  refine va_iast (i := 13) hx hb hK.1 hP hD hS 1 0 rfl rfl (by unfold vp_in; decide) dX6_init_86 (fun H locs hP hD hS => ?_)
  obtain ⟨f86, ef86⟩ : ∃ z, z = upd f80 ((13 : Int32).toNatClampNeg) 110 := ⟨_, rfl⟩
  rw [← ef86] at hP hD
  have tf86 : ∀ j, j < 14 → f86 j = gTabL.getD j 0 := by rw [ef86]; exact g_tab (i := 13) tf80 rfl
  clear ef86 tf80
  have hP : va_P D vwCl ([(h0, .inr (6, [.null, .null, .null, .null, .null, .int 0, .null, .int 0, .int 0, .null, .int 0, .int 0, .int 0, .int 0, .int 0, .int 0, .int 0])), (q7, .inl (cy 0, 85, .inl f86))]) H := hP
  have hD : va_D (gF h0 s.heap.size) ([(h0, .inr (6, [.null, .null, .null, .null, .null, .int 0, .null, .int 0, .int 0, .null, .int 0, .int 0, .int 0, .int 0, .int 0, .int 0, .int 0])), (q7, .inl (cy 0, 85, .inl f86))]) := hD
  refine lv_dup hx hb dX6_init_87 rfl ?_
  refine lv_bipush (v := 14) hx hb dX6_init_88 (by decide) ?_
  refine lv_bipush (v := 98) hx hb dX6_init_90 (by decide) ?_
  refine va_iast (i := 14) hx hb hK.1 hP hD hS 1 0 rfl rfl (by unfold vp_in; decide) dX6_init_92 (fun H locs hP hD hS => ?_)
  obtain ⟨f92, ef92⟩ : ∃ z, z = upd f86 ((14 : Int32).toNatClampNeg) 98 := ⟨_, rfl⟩
  rw [← ef92] at hP hD
  have tf92 : ∀ j, j < 15 → f92 j = gTabL.getD j 0 := by rw [ef92]; exact g_tab (i := 14) tf86 rfl
  clear ef92 tf86
  have hP : va_P D vwCl ([(h0, .inr (6, [.null, .null, .null, .null, .null, .int 0, .null, .int 0, .int 0, .null, .int 0, .int 0, .int 0, .int 0, .int 0, .int 0, .int 0])), (q7, .inl (cy 0, 85, .inl f92))]) H := hP
  have hD : va_D (gF h0 s.heap.size) ([(h0, .inr (6, [.null, .null, .null, .null, .null, .int 0, .null, .int 0, .int 0, .null, .int 0, .int 0, .int 0, .int 0, .int 0, .int 0, .int 0])), (q7, .inl (cy 0, 85, .inl f92))]) := hD
  refine lv_dup hx hb dX6_init_93 rfl ?_
  refine lv_bipush (v := 15) hx hb dX6_init_94 (by decide) ?_
  refine lv_bipush (v := 97) hx hb dX6_init_96 (by decide) ?_
  refine va_iast (i := 15) hx hb hK.1 hP hD hS 1 0 rfl rfl (by unfold vp_in; decide) dX6_init_98 (fun H locs hP hD hS => ?_)
  obtain ⟨f98, ef98⟩ : ∃ z, z = upd f92 ((15 : Int32).toNatClampNeg) 97 := ⟨_, rfl⟩
  rw [← ef98] at hP hD
  have tf98 : ∀ j, j < 16 → f98 j = gTabL.getD j 0 := by rw [ef98]; exact g_tab (i := 15) tf92 rfl
  clear ef98 tf92
  have hP : va_P D vwCl ([(h0, .inr (6, [.null, .null, .null, .null, .null, .int 0, .null, .int 0, .int 0, .null, .int 0, .int 0, .int 0, .int 0, .int 0, .int 0, .int 0])), (q7, .inl (cy 0, 85, .inl f98))]) H := hP
  have hD : va_D (gF h0 s.heap.size) ([(h0, .inr (6, [.null, .null, .null, .null, .null, .int 0, .null, .int 0, .int 0, .null, .int 0, .int 0, .int 0, .int 0, .int 0, .int 0, .int 0])), (q7, .inl (cy 0, 85, .inl f98))]) := hD
  refine lv_dup hx hb dX6_init_99 rfl ?_
  refine lv_bipush (v := 16) hx hb dX6_init_100 (by decide) ?_
  refine lv_bipush (v := 108) hx hb dX6_init_102 (by decide) ?_
  refine va_iast (i := 16) hx hb hK.1 hP hD hS 1 0 rfl rfl (by unfold vp_in; decide) dX6_init_104 (fun H locs hP hD hS => ?_)
  obtain ⟨f104, ef104⟩ : ∃ z, z = upd f98 ((16 : Int32).toNatClampNeg) 108 := ⟨_, rfl⟩
  rw [← ef104] at hP hD
  have tf104 : ∀ j, j < 17 → f104 j = gTabL.getD j 0 := by rw [ef104]; exact g_tab (i := 16) tf98 rfl
  clear ef104 tf98
  have hP : va_P D vwCl ([(h0, .inr (6, [.null, .null, .null, .null, .null, .int 0, .null, .int 0, .int 0, .null, .int 0, .int 0, .int 0, .int 0, .int 0, .int 0, .int 0])), (q7, .inl (cy 0, 85, .inl f104))]) H := hP
  have hD : va_D (gF h0 s.heap.size) ([(h0, .inr (6, [.null, .null, .null, .null, .null, .int 0, .null, .int 0, .int 0, .null, .int 0, .int 0, .int 0, .int 0, .int 0, .int 0, .int 0])), (q7, .inl (cy 0, 85, .inl f104))]) := hD
  refine lv_dup hx hb dX6_init_105 rfl ?_
  refine lv_bipush (v := 17) hx hb dX6_init_106 (by decide) ?_
  refine lv_bipush (v := 108) hx hb dX6_init_108 (by decide) ?_
  refine va_iast (i := 17) hx hb hK.1 hP hD hS 1 0 rfl rfl (by unfold vp_in; decide) dX6_init_110 (fun H locs hP hD hS => ?_)
  obtain ⟨f110, ef110⟩ : ∃ z, z = upd f104 ((17 : Int32).toNatClampNeg) 108 := ⟨_, rfl⟩
  rw [← ef110] at hP hD
  have tf110 : ∀ j, j < 18 → f110 j = gTabL.getD j 0 := by rw [ef110]; exact g_tab (i := 17) tf104 rfl
  clear ef110 tf104
  have hP : va_P D vwCl ([(h0, .inr (6, [.null, .null, .null, .null, .null, .int 0, .null, .int 0, .int 0, .null, .int 0, .int 0, .int 0, .int 0, .int 0, .int 0, .int 0])), (q7, .inl (cy 0, 85, .inl f110))]) H := hP
  have hD : va_D (gF h0 s.heap.size) ([(h0, .inr (6, [.null, .null, .null, .null, .null, .int 0, .null, .int 0, .int 0, .null, .int 0, .int 0, .int 0, .int 0, .int 0, .int 0, .int 0])), (q7, .inl (cy 0, 85, .inl f110))]) := hD
  refine lv_dup hx hb dX6_init_111 rfl ?_
  refine lv_bipush (v := 18) hx hb dX6_init_112 (by decide) ?_
  refine lv_bipush (v := 98) hx hb dX6_init_114 (by decide) ?_
  refine va_iast (i := 18) hx hb hK.1 hP hD hS 1 0 rfl rfl (by unfold vp_in; decide) dX6_init_116 (fun H locs hP hD hS => ?_)
  obtain ⟨f116, ef116⟩ : ∃ z, z = upd f110 ((18 : Int32).toNatClampNeg) 98 := ⟨_, rfl⟩
  rw [← ef116] at hP hD
  have tf116 : ∀ j, j < 19 → f116 j = gTabL.getD j 0 := by rw [ef116]; exact g_tab (i := 18) tf110 rfl
  clear ef116 tf110
  have hP : va_P D vwCl ([(h0, .inr (6, [.null, .null, .null, .null, .null, .int 0, .null, .int 0, .int 0, .null, .int 0, .int 0, .int 0, .int 0, .int 0, .int 0, .int 0])), (q7, .inl (cy 0, 85, .inl f116))]) H := hP
  have hD : va_D (gF h0 s.heap.size) ([(h0, .inr (6, [.null, .null, .null, .null, .null, .int 0, .null, .int 0, .int 0, .null, .int 0, .int 0, .int 0, .int 0, .int 0, .int 0, .int 0])), (q7, .inl (cy 0, 85, .inl f116))]) := hD
  refine lv_dup hx hb dX6_init_117 rfl ?_
  refine lv_bipush (v := 19) hx hb dX6_init_118 (by decide) ?_
  refine lv_bipush (v := 97) hx hb dX6_init_120 (by decide) ?_
  refine va_iast (i := 19) hx hb hK.1 hP hD hS 1 0 rfl rfl (by unfold vp_in; decide) dX6_init_122 (fun H locs hP hD hS => ?_)
  obtain ⟨f122, ef122⟩ : ∃ z, z = upd f116 ((19 : Int32).toNatClampNeg) 97 := ⟨_, rfl⟩
  rw [← ef122] at hP hD
  have tf122 : ∀ j, j < 20 → f122 j = gTabL.getD j 0 := by rw [ef122]; exact g_tab (i := 19) tf116 rfl
  clear ef122 tf116
  have hP : va_P D vwCl ([(h0, .inr (6, [.null, .null, .null, .null, .null, .int 0, .null, .int 0, .int 0, .null, .int 0, .int 0, .int 0, .int 0, .int 0, .int 0, .int 0])), (q7, .inl (cy 0, 85, .inl f122))]) H := hP
  have hD : va_D (gF h0 s.heap.size) ([(h0, .inr (6, [.null, .null, .null, .null, .null, .int 0, .null, .int 0, .int 0, .null, .int 0, .int 0, .int 0, .int 0, .int 0, .int 0, .int 0])), (q7, .inl (cy 0, 85, .inl f122))]) := hD
  refine lv_dup hx hb dX6_init_123 rfl ?_
  refine lv_bipush (v := 20) hx hb dX6_init_124 (by decide) ?_
  refine lv_bipush (v := 103) hx hb dX6_init_126 (by decide) ?_
  refine va_iast (i := 20) hx hb hK.1 hP hD hS 1 0 rfl rfl (by unfold vp_in; decide) dX6_init_128 (fun H locs hP hD hS => ?_)
  obtain ⟨f128, ef128⟩ : ∃ z, z = upd f122 ((20 : Int32).toNatClampNeg) 103 := ⟨_, rfl⟩
  rw [← ef128] at hP hD
  have tf128 : ∀ j, j < 21 → f128 j = gTabL.getD j 0 := by rw [ef128]; exact g_tab (i := 20) tf122 rfl
  clear ef128 tf122
  have hP : va_P D vwCl ([(h0, .inr (6, [.null, .null, .null, .null, .null, .int 0, .null, .int 0, .int 0, .null, .int 0, .int 0, .int 0, .int 0, .int 0, .int 0, .int 0])), (q7, .inl (cy 0, 85, .inl f128))]) H := hP
  have hD : va_D (gF h0 s.heap.size) ([(h0, .inr (6, [.null, .null, .null, .null, .null, .int 0, .null, .int 0, .int 0, .null, .int 0, .int 0, .int 0, .int 0, .int 0, .int 0, .int 0])), (q7, .inl (cy 0, 85, .inl f128))]) := hD
  refine lv_dup hx hb dX6_init_129 rfl ?_
  refine lv_bipush (v := 21) hx hb dX6_init_130 (by decide) ?_
  refine lv_bipush (v := 114) hx hb dX6_init_132 (by decide) ?_
  refine va_iast (i := 21) hx hb hK.1 hP hD hS 1 0 rfl rfl (by unfold vp_in; decide) dX6_init_134 (fun H locs hP hD hS => ?_)
  obtain ⟨f134, ef134⟩ : ∃ z, z = upd f128 ((21 : Int32).toNatClampNeg) 114 := ⟨_, rfl⟩
  rw [← ef134] at hP hD
  have tf134 : ∀ j, j < 22 → f134 j = gTabL.getD j 0 := by rw [ef134]; exact g_tab (i := 21) tf128 rfl
  clear ef134 tf128
  have hP : va_P D vwCl ([(h0, .inr (6, [.null, .null, .null, .null, .null, .int 0, .null, .int 0, .int 0, .null, .int 0, .int 0, .int 0, .int 0, .int 0, .int 0, .int 0])), (q7, .inl (cy 0, 85, .inl f134))]) H := hP
  have hD : va_D (gF h0 s.heap.size) ([(h0, .inr (6, [.null, .null, .null, .null, .null, .int 0, .null, .int 0, .int 0, .null, .int 0, .int 0, .int 0, .int 0, .int 0, .int 0, .int 0])), (q7, .inl (cy 0, 85, .inl f134))]) := hD
  refine lv_dup hx hb dX6_init_135 rfl ?_
  refine lv_bipush (v := 22) hx hb dX6_init_136 (by decide) ?_
  refine lv_bipush (v := 101) hx hb dX6_init_138 (by decide) ?_
  refine va_iast (i := 22) hx hb hK.1 hP hD hS 1 0 rfl rfl (by unfold vp_in; decide) dX6_init_140 (fun H locs hP hD hS => ?_)
  obtain ⟨f140, ef140⟩ : ∃ z, z = upd f134 ((22 : Int32).toNatClampNeg) 101 := ⟨_, rfl⟩
  rw [← ef140] at hP hD
  have tf140 : ∀ j, j < 23 → f140 j = gTabL.getD j 0 := by rw [ef140]; exact g_tab (i := 22) tf134 rfl
  clear ef140 tf134
  have hP : va_P D vwCl ([(h0, .inr (6, [.null, .null, .null, .null, .null, .int 0, .null, .int 0, .int 0, .null, .int 0, .int 0, .int 0, .int 0, .int 0, .int 0, .int 0])), (q7, .inl (cy 0, 85, .inl f140))]) H := hP
  have hD : va_D (gF h0 s.heap.size) ([(h0, .inr (6, [.null, .null, .null, .null, .null, .int 0, .null, .int 0, .int 0, .null, .int 0, .int 0, .int 0, .int 0, .int 0, .int 0, .int 0])), (q7, .inl (cy 0, 85, .inl f140))]) := hD
  refine lv_dup hx hb dX6_init_141 rfl ?_
  refine lv_bipush (v := 23) hx hb dX6_init_142 (by decide) ?_
  refine lv_bipush (v := 100) hx hb dX6_init_144 (by decide) ?_
  refine va_iast (i := 23) hx hb hK.1 hP hD hS 1 0 rfl rfl (by unfold vp_in; decide) dX6_init_146 (fun H locs hP hD hS => ?_)
  obtain ⟨f146, ef146⟩ : ∃ z, z = upd f140 ((23 : Int32).toNatClampNeg) 100 := ⟨_, rfl⟩
  rw [← ef146] at hP hD
  have tf146 : ∀ j, j < 24 → f146 j = gTabL.getD j 0 := by rw [ef146]; exact g_tab (i := 23) tf140 rfl
  clear ef146 tf140
  have hP : va_P D vwCl ([(h0, .inr (6, [.null, .null, .null, .null, .null, .int 0, .null, .int 0, .int 0, .null, .int 0, .int 0, .int 0, .int 0, .int 0, .int 0, .int 0])), (q7, .inl (cy 0, 85, .inl f146))]) H := hP
  have hD : va_D (gF h0 s.heap.size) ([(h0, .inr (6, [.null, .null, .null, .null, .null, .int 0, .null, .int 0, .int 0, .null, .int 0, .int 0, .int 0, .int 0, .int 0, .int 0, .int 0])), (q7, .inl (cy 0, 85, .inl f146))]) := hD
  refine lv_dup hx hb dX6_init_147 rfl ?_
  refine lv_bipush (v := 24) hx hb dX6_init_148 (by decide) ?_
  refine lv_bipush (v := 98) hx hb dX6_init_150 (by decide) ?_
  refine va_iast (i := 24) hx hb hK.1 hP hD hS 1 0 rfl rfl (by unfold vp_in; decide) dX6_init_152 (fun H locs hP hD hS => ?_)
  obtain ⟨f152, ef152⟩ : ∃ z, z = upd f146 ((24 : Int32).toNatClampNeg) 98 := ⟨_, rfl⟩
  rw [← ef152] at hP hD
  have tf152 : ∀ j, j < 25 → f152 j = gTabL.getD j 0 := by rw [ef152]; exact g_tab (i := 24) tf146 rfl
  clear ef152 tf146
  have hP : va_P D vwCl ([(h0, .inr (6, [.null, .null, .null, .null, .null, .int 0, .null, .int 0, .int 0, .null, .int 0, .int 0, .int 0, .int 0, .int 0, .int 0, .int 0])), (q7, .inl (cy 0, 85, .inl f152))]) H := hP
  have hD : va_D (gF h0 s.heap.size) ([(h0, .inr (6, [.null, .null, .null, .null, .null, .int 0, .null, .int 0, .int 0, .null, .int 0, .int 0, .int 0, .int 0, .int 0, .int 0, .int 0])), (q7, .inl (cy 0, 85, .inl f152))]) := hD
  refine lv_dup hx hb dX6_init_153 rfl ?_
  refine lv_bipush (v := 25) hx hb dX6_init_154 (by decide) ?_
  refine lv_bipush (v := 108) hx hb dX6_init_156 (by decide) ?_
  refine va_iast (i := 25) hx hb hK.1 hP hD hS 1 0 rfl rfl (by unfold vp_in; decide) dX6_init_158 (fun H locs hP hD hS => ?_)
  obtain ⟨f158, ef158⟩ : ∃ z, z = upd f152 ((25 : Int32).toNatClampNeg) 108 := ⟨_, rfl⟩
  rw [← ef158] at hP hD
  have tf158 : ∀ j, j < 26 → f158 j = gTabL.getD j 0 := by rw [ef158]; exact g_tab (i := 25) tf152 rfl
  clear ef158 tf152
  have hP : va_P D vwCl ([(h0, .inr (6, [.null, .null, .null, .null, .null, .int 0, .null, .int 0, .int 0, .null, .int 0, .int 0, .int 0, .int 0, .int 0, .int 0, .int 0])), (q7, .inl (cy 0, 85, .inl f158))]) H := hP
  have hD : va_D (gF h0 s.heap.size) ([(h0, .inr (6, [.null, .null, .null, .null, .null, .int 0, .null, .int 0, .int 0, .null, .int 0, .int 0, .int 0, .int 0, .int 0, .int 0, .int 0])), (q7, .inl (cy 0, 85, .inl f158))]) := hD
  refine lv_dup hx hb dX6_init_159 rfl ?_
  refine lv_bipush (v := 26) hx hb dX6_init_160 (by decide) ?_
  refine lv_bipush (v := 117) hx hb dX6_init_162 (by decide) ?_
  refine va_iast (i := 26) hx hb hK.1 hP hD hS 1 0 rfl rfl (by unfold vp_in; decide) dX6_init_164 (fun H locs hP hD hS => ?_)
  obtain ⟨f164, ef164⟩ : ∃ z, z = upd f158 ((26 : Int32).toNatClampNeg) 117 := ⟨_, rfl⟩
  rw [← ef164] at hP hD
  have tf164 : ∀ j, j < 27 → f164 j = gTabL.getD j 0 := by rw [ef164]; exact g_tab (i := 26) tf158 rfl
  clear ef164 tf158
  have hP : va_P D vwCl ([(h0, .inr (6, [.null, .null, .null, .null, .null, .int 0, .null, .int 0, .int 0, .null, .int 0, .int 0, .int 0, .int 0, .int 0, .int 0, .int 0])), (q7, .inl (cy 0, 85, .inl f164))]) H := hP
  have hD : va_D (gF h0 s.heap.size) ([(h0, .inr (6, [.null, .null, .null, .null, .null, .int 0, .null, .int 0, .int 0, .null, .int 0, .int 0, .int 0, .int 0, .int 0, .int 0, .int 0])), (q7, .inl (cy 0, 85, .inl f164))]) := hD
  refine lv_dup hx hb dX6_init_165 rfl ?_
  refine lv_bipush (v := 27) hx hb dX6_init_166 (by decide) ?_
  refine lv_bipush (v := 101) hx hb dX6_init_168 (by decide) ?_
  refine va_iast (i := 27) hx hb hK.1 hP hD hS 1 0 rfl rfl (by unfold vp_in; decide) dX6_init_170 (fun H locs hP hD hS => ?_)
  obtain ⟨f170, ef170⟩ : ∃ z, z = upd f164 ((27 : Int32).toNatClampNeg) 101 := ⟨_, rfl⟩
  rw [← ef170] at hP hD
  have tf170 : ∀ j, j < 28 → f170 j = gTabL.getD j 0 := by rw [ef170]; exact g_tab (i := 27) tf164 rfl
  clear ef170 tf164
  have hP : va_P D vwCl ([(h0, .inr (6, [.null, .null, .null, .null, .null, .int 0, .null, .int 0, .int 0, .null, .int 0, .int 0, .int 0, .int 0, .int 0, .int 0, .int 0])), (q7, .inl (cy 0, 85, .inl f170))]) H := hP
  have hD : va_D (gF h0 s.heap.size) ([(h0, .inr (6, [.null, .null, .null, .null, .null, .int 0, .null, .int 0, .int 0, .null, .int 0, .int 0, .int 0, .int 0, .int 0, .int 0, .int 0])), (q7, .inl (cy 0, 85, .inl f170))]) := hD
  refine lv_dup hx hb dX6_init_171 rfl ?_
  refine lv_bipush (v := 28) hx hb dX6_init_172 (by decide) ?_
  refine lv_bipush (v := 111) hx hb dX6_init_174 (by decide) ?_
  refine va_iast (i := 28) hx hb hK.1 hP hD hS 1 0 rfl rfl (by unfold vp_in; decide) dX6_init_176 (fun H locs hP hD hS => ?_)
  obtain ⟨f176, ef176⟩ : ∃ z, z = upd f170 ((28 : Int32).toNatClampNeg) 111 := ⟨_, rfl⟩
  rw [← ef176] at hP hD
  have tf176 : ∀ j, j < 29 → f176 j = gTabL.getD j 0 := by rw [ef176]; exact g_tab (i := 28) tf170 rfl
  clear ef176 tf170
  have hP : va_P D vwCl ([(h0, .inr (6, [.null, .null, .null, .null, .null, .int 0, .null, .int 0, .int 0, .null, .int 0, .int 0, .int 0, .int 0, .int 0, .int 0, .int 0])), (q7, .inl (cy 0, 85, .inl f176))]) H := hP
  have hD : va_D (gF h0 s.heap.size) ([(h0, .inr (6, [.null, .null, .null, .null, .null, .int 0, .null, .int 0, .int 0, .null, .int 0, .int 0, .int 0, .int 0, .int 0, .int 0, .int 0])), (q7, .inl (cy 0, 85, .inl f176))]) := hD
  refine lv_dup hx hb dX6_init_177 rfl ?_
  refine lv_bipush (v := 29) hx hb dX6_init_178 (by decide) ?_
  refine lv_bipush (v := 108) hx hb dX6_init_180 (by decide) ?_
  refine va_iast (i := 29) hx hb hK.1 hP hD hS 1 0 rfl rfl (by unfold vp_in; decide) dX6_init_182 (fun H locs hP hD hS => ?_)
  obtain ⟨f182, ef182⟩ : ∃ z, z = upd f176 ((29 : Int32).toNatClampNeg) 108 := ⟨_, rfl⟩
  rw [← ef182] at hP hD
  have tf182 : ∀ j, j < 30 → f182 j = gTabL.getD j 0 := by rw [ef182]; exact g_tab (i := 29) tf176 rfl
  clear ef182 tf176
  have hP : va_P D vwCl ([(h0, .inr (6, [.null, .null, .null, .null, .null, .int 0, .null, .int 0, .int 0, .null, .int 0, .int 0, .int 0, .int 0, .int 0, .int 0, .int 0])), (q7, .inl (cy 0, 85, .inl f182))]) H := hP
  have hD : va_D (gF h0 s.heap.size) ([(h0, .inr (6, [.null, .null, .null, .null, .null, .int 0, .null, .int 0, .int 0, .null, .int 0, .int 0, .int 0, .int 0, .int 0, .int 0, .int 0])), (q7, .inl (cy 0, 85, .inl f182))]) := hD
  refine lv_dup hx hb dX6_init_183 rfl ?_
  refine lv_bipush (v := 30) hx hb dX6_init_184 (by decide) ?_
  refine lv_bipush (v := 100) hx hb dX6_init_186 (by decide) ?_
  refine va_iast (i := 30) hx hb hK.1 hP hD hS 1 0 rfl rfl (by unfold vp_in; decide) dX6_init_188 (fun H locs hP hD hS => ?_)
  obtain ⟨f188, ef188⟩ : ∃ z, z = upd f182 ((30 : Int32).toNatClampNeg) 100 := ⟨_, rfl⟩
  rw [← ef188] at hP hD
  have tf188 : ∀ j, j < 31 → f188 j = gTabL.getD j 0 := by rw [ef188]; exact g_tab (i := 30) tf182 rfl
  clear ef188 tf182
  have hP : va_P D vwCl ([(h0, .inr (6, [.null, .null, .null, .null, .null, .int 0, .null, .int 0, .int 0, .null, .int 0, .int 0, .int 0, .int 0, .int 0, .int 0, .int 0])), (q7, .inl (cy 0, 85, .inl f188))]) H := hP
  have hD : va_D (gF h0 s.heap.size) ([(h0, .inr (6, [.null, .null, .null, .null, .null, .int 0, .null, .int 0, .int 0, .null, .int 0, .int 0, .int 0, .int 0, .int 0, .int 0, .int 0])), (q7, .inl (cy 0, 85, .inl f188))]) := hD
  refine lv_dup hx hb dX6_init_189 rfl ?_
  refine lv_bipush (v := 31) hx hb dX6_init_190 (by decide) ?_
  refine lv_bipush (v := 98) hx hb dX6_init_192 (by decide) ?_
  refine va_iast (i := 31) hx hb hK.1 hP hD hS 1 0 rfl rfl (by unfold vp_in; decide) dX6_init_194 (fun H locs hP hD hS => ?_)
  obtain ⟨f194, ef194⟩ : ∃ z, z = upd f188 ((31 : Int32).toNatClampNeg) 98 := ⟨_, rfl⟩
  rw [← ef194] at hP hD
  have tf194 : ∀ j, j < 32 → f194 j = gTabL.getD j 0 := by rw [ef194]; exact g_tab (i := 31) tf188 rfl
  clear ef194 tf188
  have hP : va_P D vwCl ([(h0, .inr (6, [.null, .null, .null, .null, .null, .int 0, .null, .int 0, .int 0, .null, .int 0, .int 0, .int 0, .int 0, .int 0, .int 0, .int 0])), (q7, .inl (cy 0, 85, .inl f194))]) H := hP
  have hD : va_D (gF h0 s.heap.size) ([(h0, .inr (6, [.null, .null, .null, .null, .null, .int 0, .null, .int 0, .int 0, .null, .int 0, .int 0, .int 0, .int 0, .int 0, .int 0, .int 0])), (q7, .inl (cy 0, 85, .inl f194))]) := hD
  refine lv_dup hx hb dX6_init_195 rfl ?_
  refine lv_bipush (v := 32) hx hb dX6_init_196 (by decide) ?_
  refine lv_bipush (v := 105) hx hb dX6_init_198 (by decide) ?_
  refine va_iast (i := 32) hx hb hK.1 hP hD hS 1 0 rfl rfl (by unfold vp_in; decide) dX6_init_200 (fun H locs hP hD hS => ?_)
  obtain ⟨f200, ef200⟩ : ∃ z, z = upd f194 ((32 : Int32).toNatClampNeg) 105 := ⟨_, rfl⟩
  rw [← ef200] at hP hD
  have tf200 : ∀ j, j < 33 → f200 j = gTabL.getD j 0 := by rw [ef200]; exact g_tab (i := 32) tf194 rfl
  clear ef200 tf194
  have hP : va_P D vwCl ([(h0, .inr (6, [.null, .null, .null, .null, .null, .int 0, .null, .int 0, .int 0, .null, .int 0, .int 0, .int 0, .int 0, .int 0, .int 0, .int 0])), (q7, .inl (cy 0, 85, .inl f200))]) H := hP
  have hD : va_D (gF h0 s.heap.size) ([(h0, .inr (6, [.null, .null, .null, .null, .null, .int 0, .null, .int 0, .int 0, .null, .int 0, .int 0, .int 0, .int 0, .int 0, .int 0, .int 0])), (q7, .inl (cy 0, 85, .inl f200))]) := hD
  refine lv_dup hx hb dX6_init_201 rfl ?_
  refine lv_bipush (v := 33) hx hb dX6_init_202 (by decide) ?_
  refine lv_bipush (v := 103) hx hb dX6_init_204 (by decide) ?_
  refine va_iast (i := 33) hx hb hK.1 hP hD hS 1 0 rfl rfl (by unfold vp_in; decide) dX6_init_206 (fun H locs hP hD hS => ?_)
  obtain ⟨f206, ef206⟩ : ∃ z, z = upd f200 ((33 : Int32).toNatClampNeg) 103 := ⟨_, rfl⟩
  rw [← ef206] at hP hD
  have tf206 : ∀ j, j < 34 → f206 j = gTabL.getD j 0 := by rw [ef206]; exact g_tab (i := 33) tf200 rfl
  clear ef206 tf200
  have hP : va_P D vwCl ([(h0, .inr (6, [.null, .null, .null, .null, .null, .int 0, .null, .int 0, .int 0, .null, .int 0, .int 0, .int 0, .int 0, .int 0, .int 0, .int 0])), (q7, .inl (cy 0, 85, .inl f206))]) H := hP
  have hD : va_D (gF h0 s.heap.size) ([(h0, .inr (6, [.null, .null, .null, .null, .null, .int 0, .null, .int 0, .int 0, .null, .int 0, .int 0, .int 0, .int 0, .int 0, .int 0, .int 0])), (q7, .inl (cy 0, 85, .inl f206))]) := hD
  refine lv_dup hx hb dX6_init_207 rfl ?_
  refine lv_bipush (v := 34) hx hb dX6_init_208 (by decide) ?_
  refine lv_bipush (v := 116) hx hb dX6_init_210 (by decide) ?_
  refine va_iast (i := 34) hx hb hK.1 hP hD hS 1 0 rfl rfl (by unfold vp_in; decide) dX6_init_212 (fun H locs hP hD hS => ?_)
  obtain ⟨f212, ef212⟩ : ∃ z, z = upd f206 ((34 : Int32).toNatClampNeg) 116 := ⟨_, rfl⟩
  rw [← ef212] at hP hD
  have tf212 : ∀ j, j < 35 → f212 j = gTabL.getD j 0 := by rw [ef212]; exact g_tab (i := 34) tf206 rfl
  clear ef212 tf206
  have hP : va_P D vwCl ([(h0, .inr (6, [.null, .null, .null, .null, .null, .int 0, .null, .int 0, .int 0, .null, .int 0, .int 0, .int 0, .int 0, .int 0, .int 0, .int 0])), (q7, .inl (cy 0, 85, .inl f212))]) H := hP
  have hD : va_D (gF h0 s.heap.size) ([(h0, .inr (6, [.null, .null, .null, .null, .null, .int 0, .null, .int 0, .int 0, .null, .int 0, .int 0, .int 0, .int 0, .int 0, .int 0, .int 0])), (q7, .inl (cy 0, 85, .inl f212))]) := hD
  refine lv_dup hx hb dX6_init_213 rfl ?_
  refine lv_bipush (v := 35) hx hb dX6_init_214 (by decide) ?_
  refine lv_bipush (v := 97) hx hb dX6_init_216 (by decide) ?_
  refine va_iast (i := 35) hx hb hK.1 hP hD hS 1 0 rfl rfl (by unfold vp_in; decide) dX6_init_218 (fun H locs hP hD hS => ?_)
  obtain ⟨f218, ef218⟩ : ∃ z, z = upd f212 ((35 : Int32).toNatClampNeg) 97 := ⟨_, rfl⟩
  rw [← ef218] at hP hD
  have tf218 : ∀ j, j < 36 → f218 j = gTabL.getD j 0 := by rw [ef218]; exact g_tab (i := 35) tf212 rfl
  clear ef218 tf212
  have hP : va_P D vwCl ([(h0, .inr (6, [.null, .null, .null, .null, .null, .int 0, .null, .int 0, .int 0, .null, .int 0, .int 0, .int 0, .int 0, .int 0, .int 0, .int 0])), (q7, .inl (cy 0, 85, .inl f218))]) H := hP
  have hD : va_D (gF h0 s.heap.size) ([(h0, .inr (6, [.null, .null, .null, .null, .null, .int 0, .null, .int 0, .int 0, .null, .int 0, .int 0, .int 0, .int 0, .int 0, .int 0, .int 0])), (q7, .inl (cy 0, 85, .inl f218))]) := hD
  refine lv_dup hx hb dX6_init_219 rfl ?_
  refine lv_bipush (v := 36) hx hb dX6_init_220 (by decide) ?_
  refine lv_bipush (v := 107) hx hb dX6_init_222 (by decide) ?_
  refine va_iast (i := 36) hx hb hK.1 hP hD hS 1 0 rfl rfl (by unfold vp_in; decide) dX6_init_224 (fun H locs hP hD hS => ?_)
  obtain ⟨f224, ef224⟩ : ∃ z, z = upd f218 ((36 : Int32).toNatClampNeg) 107 := ⟨_, rfl⟩
  rw [← ef224] at hP hD
  have tf224 : ∀ j, j < 37 → f224 j = gTabL.getD j 0 := by rw [ef224]; exact g_tab (i := 36) tf218 rfl
  clear ef224 tf218
  have hP : va_P D vwCl ([(h0, .inr (6, [.null, .null, .null, .null, .null, .int 0, .null, .int 0, .int 0, .null, .int 0, .int 0, .int 0, .int 0, .int 0, .int 0, .int 0])), (q7, .inl (cy 0, 85, .inl f224))]) H := hP
  have hD : va_D (gF h0 s.heap.size) ([(h0, .inr (6, [.null, .null, .null, .null, .null, .int 0, .null, .int 0, .int 0, .null, .int 0, .int 0, .int 0, .int 0, .int 0, .int 0, .int 0])), (q7, .inl (cy 0, 85, .inl f224))]) := hD
  refine lv_dup hx hb dX6_init_225 rfl ?_
  refine lv_bipush (v := 37) hx hb dX6_init_226 (by decide) ?_
  refine lv_bipush (v := 101) hx hb dX6_init_228 (by decide) ?_
  refine va_iast (i := 37) hx hb hK.1 hP hD hS 1 0 rfl rfl (by unfold vp_in; decide) dX6_init_230 (fun H locs hP hD hS => ?_)
  obtain ⟨f230, ef230⟩ : ∃ z, z = upd f224 ((37 : Int32).toNatClampNeg) 101 := ⟨_, rfl⟩
  rw [← ef230] at hP hD
  have tf230 : ∀ j, j < 38 → f230 j = gTabL.getD j 0 := by rw [ef230]; exact g_tab (i := 37) tf224 rfl
  clear ef230 tf224
  have hP : va_P D vwCl ([(h0, .inr (6, [.null, .null, .null, .null, .null, .int 0, .null, .int 0, .int 0, .null, .int 0, .int 0, .int 0, .int 0, .int 0, .int 0, .int 0])), (q7, .inl (cy 0, 85, .inl f230))]) H := hP
  have hD : va_D (gF h0 s.heap.size) ([(h0, .inr (6, [.null, .null, .null, .null, .null, .int 0, .null, .int 0, .int 0, .null, .int 0, .int 0, .int 0, .int 0, .int 0, .int 0, .int 0])), (q7, .inl (cy 0, 85, .inl f230))]) := hD
  refine lv_dup hx hb dX6_init_231 rfl ?_
  refine lv_bipush (v := 38) hx hb dX6_init_232 (by decide) ?_
  refine lv_bipush (v := 100) hx hb dX6_init_234 (by decide) ?_
  refine va_iast (i := 38) hx hb hK.1 hP hD hS 1 0 rfl rfl (by unfold vp_in; decide) dX6_init_236 (fun H locs hP hD hS => ?_)
  obtain ⟨f236, ef236⟩ : ∃ z, z = upd f230 ((38 : Int32).toNatClampNeg) 100 := ⟨_, rfl⟩
  rw [← ef236] at hP hD
  have tf236 : ∀ j, j < 39 → f236 j = gTabL.getD j 0 := by rw [ef236]; exact g_tab (i := 38) tf230 rfl
  clear ef236 tf230
  have hP : va_P D vwCl ([(h0, .inr (6, [.null, .null, .null, .null, .null, .int 0, .null, .int 0, .int 0, .null, .int 0, .int 0, .int 0, .int 0, .int 0, .int 0, .int 0])), (q7, .inl (cy 0, 85, .inl f236))]) H := hP
  have hD : va_D (gF h0 s.heap.size) ([(h0, .inr (6, [.null, .null, .null, .null, .null, .int 0, .null, .int 0, .int 0, .null, .int 0, .int 0, .int 0, .int 0, .int 0, .int 0, .int 0])), (q7, .inl (cy 0, 85, .inl f236))]) := hD
  refine lv_dup hx hb dX6_init_237 rfl ?_
  refine lv_bipush (v := 39) hx hb dX6_init_238 (by decide) ?_
  refine lv_bipush (v := 114) hx hb dX6_init_240 (by decide) ?_
  refine va_iast (i := 39) hx hb hK.1 hP hD hS 1 0 rfl rfl (by unfold vp_in; decide) dX6_init_242 (fun H locs hP hD hS => ?_)
  obtain ⟨f242, ef242⟩ : ∃ z, z = upd f236 ((39 : Int32).toNatClampNeg) 114 := ⟨_, rfl⟩
  rw [← ef242] at hP hD
  have tf242 : ∀ j, j < 40 → f242 j = gTabL.getD j 0 := by rw [ef242]; exact g_tab (i := 39) tf236 rfl
  clear ef242 tf236
  have hP : va_P D vwCl ([(h0, .inr (6, [.null, .null, .null, .null, .null, .int 0, .null, .int 0, .int 0, .null, .int 0, .int 0, .int 0, .int 0, .int 0, .int 0, .int 0])), (q7, .inl (cy 0, 85, .inl f242))]) H := hP
  have hD : va_D (gF h0 s.heap.size) ([(h0, .inr (6, [.null, .null, .null, .null, .null, .int 0, .null, .int 0, .int 0, .null, .int 0, .int 0, .int 0, .int 0, .int 0, .int 0, .int 0])), (q7, .inl (cy 0, 85, .inl f242))]) := hD
  refine lv_dup hx hb dX6_init_243 rfl ?_
  refine lv_bipush (v := 40) hx hb dX6_init_244 (by decide) ?_
  refine lv_bipush (v := 111) hx hb dX6_init_246 (by decide) ?_
  refine va_iast (i := 40) hx hb hK.1 hP hD hS 1 0 rfl rfl (by unfold vp_in; decide) dX6_init_248 (fun H locs hP hD hS => ?_)
  obtain ⟨f248, ef248⟩ : ∃ z, z = upd f242 ((40 : Int32).toNatClampNeg) 111 := ⟨_, rfl⟩
  rw [← ef248] at hP hD
  have tf248 : ∀ j, j < 41 → f248 j = gTabL.getD j 0 := by rw [ef248]; exact g_tab (i := 40) tf242 rfl
  clear ef248 tf242
  have hP : va_P D vwCl ([(h0, .inr (6, [.null, .null, .null, .null, .null, .int 0, .null, .int 0, .int 0, .null, .int 0, .int 0, .int 0, .int 0, .int 0, .int 0, .int 0])), (q7, .inl (cy 0, 85, .inl f248))]) H := hP
  have hD : va_D (gF h0 s.heap.size) ([(h0, .inr (6, [.null, .null, .null, .null, .null, .int 0, .null, .int 0, .int 0, .null, .int 0, .int 0, .int 0, .int 0, .int 0, .int 0, .int 0])), (q7, .inl (cy 0, 85, .inl f248))]) := hD
  refine lv_dup hx hb dX6_init_249 rfl ?_
  refine lv_bipush (v := 41) hx hb dX6_init_250 (by decide) ?_
  refine lv_bipush (v := 112) hx hb dX6_init_252 (by decide) ?_
  refine va_iast (i := 41) hx hb hK.1 hP hD hS 1 0 rfl rfl (by unfold vp_in; decide) dX6_init_254 (fun H locs hP hD hS => ?_)
  obtain ⟨f254, ef254⟩ : ∃ z, z = upd f248 ((41 : Int32).toNatClampNeg) 112 := ⟨_, rfl⟩
  rw [← ef254] at hP hD
  have tf254 : ∀ j, j < 42 → f254 j = gTabL.getD j 0 := by rw [ef254]; exact g_tab (i := 41) tf248 rfl
  clear ef254 tf248
  have hP : va_P D vwCl ([(h0, .inr (6, [.null, .null, .null, .null, .null, .int 0, .null, .int 0, .int 0, .null, .int 0, .int 0, .int 0, .int 0, .int 0, .int 0, .int 0])), (q7, .inl (cy 0, 85, .inl f254))]) H := hP
  have hD : va_D (gF h0 s.heap.size) ([(h0, .inr (6, [.null, .null, .null, .null, .null, .int 0, .null, .int 0, .int 0, .null, .int 0, .int 0, .int 0, .int 0, .int 0, .int 0, .int 0])), (q7, .inl (cy 0, 85, .inl f254))]) := hD
  refine lv_dup hx hb dX6_init_255 rfl ?_
  refine lv_bipush (v := 42) hx hb dX6_init_256 (by decide) ?_
  refine lv_bipush (v := 112) hx hb dX6_init_258 (by decide) ?_
  refine va_iast (i := 42) hx hb hK.1 hP hD hS 1 0 rfl rfl (by unfold vp_in; decide) dX6_init_260 (fun H locs hP hD hS => ?_)
  obtain ⟨f260, ef260⟩ : ∃ z, z = upd f254 ((42 : Int32).toNatClampNeg) 112 := ⟨_, rfl⟩
  rw [← ef260] at hP hD
  have tf260 : ∀ j, j < 43 → f260 j = gTabL.getD j 0 := by rw [ef260]; exact g_tab (i := 42) tf254 rfl
  clear ef260 tf254
  have hP : va_P D vwCl ([(h0, .inr (6, [.null, .null, .null, .null, .null, .int 0, .null, .int 0, .int 0, .null, .int 0, .int 0, .int 0, .int 0, .int 0, .int 0, .int 0])), (q7, .inl (cy 0, 85, .inl f260))]) H := hP
  have hD : va_D (gF h0 s.heap.size) ([(h0, .inr (6, [.null, .null, .null, .null, .null, .int 0, .null, .int 0, .int 0, .null, .int 0, .int 0, .int 0, .int 0, .int 0, .int 0, .int 0])), (q7, .inl (cy 0, 85, .inl f260))]) := hD
  refine lv_dup hx hb dX6_init_261 rfl ?_
  refine lv_bipush (v := 43) hx hb dX6_init_262 (by decide) ?_
  refine lv_bipush (v := 117) hx hb dX6_init_264 (by decide) ?_
  refine va_iast (i := 43) hx hb hK.1 hP hD hS 1 0 rfl rfl (by unfold vp_in; decide) dX6_init_266 (fun H locs hP hD hS => ?_)
  obtain ⟨f266, ef266⟩ : ∃ z, z = upd f260 ((43 : Int32).toNatClampNeg) 117 := ⟨_, rfl⟩
  rw [← ef266] at hP hD
  have tf266 : ∀ j, j < 44 → f266 j = gTabL.getD j 0 := by rw [ef266]; exact g_tab (i := 43) tf260 rfl
  clear ef266 tf260
  have hP : va_P D vwCl ([(h0, .inr (6, [.null, .null, .null, .null, .null, .int 0, .null, .int 0, .int 0, .null, .int 0, .int 0, .int 0, .int 0, .int 0, .int 0, .int 0])), (q7, .inl (cy 0, 85, .inl f266))]) H := hP
  have hD : va_D (gF h0 s.heap.size) ([(h0, .inr (6, [.null, .null, .null, .null, .null, .int 0, .null, .int 0, .int 0, .null, .int 0, .int 0, .int 0, .int 0, .int 0, .int 0, .int 0])), (q7, .inl (cy 0, 85, .inl f266))]) := hD
  refine lv_dup hx hb dX6_init_267 rfl ?_
  refine lv_bipush (v := 44) hx hb dX6_init_268 (by decide) ?_
  refine lv_bipush (v := 116) hx hb dX6_init_270 (by decide) ?_
  refine va_iast (i := 44) hx hb hK.1 hP hD hS 1 0 rfl rfl (by unfold vp_in; decide) dX6_init_272 (fun H locs hP hD hS => ?_)
  obtain ⟨f272, ef272⟩ : ∃ z, z = upd f266 ((44 : Int32).toNatClampNeg) 116 := ⟨_, rfl⟩
  rw [← ef272] at hP hD
  have tf272 : ∀ j, j < 45 → f272 j = gTabL.getD j 0 := by rw [ef272]; exact g_tab (i := 44) tf266 rfl
  clear ef272 tf266
  have hP : va_P D vwCl ([(h0, .inr (6, [.null, .null, .null, .null, .null, .int 0, .null, .int 0, .int 0, .null, .int 0, .int 0, .int 0, .int 0, .int 0, .int 0, .int 0])), (q7, .inl (cy 0, 85, .inl f272))]) H := hP
  have hD : va_D (gF h0 s.heap.size) ([(h0, .inr (6, [.null, .null, .null, .null, .null, .int 0, .null, .int 0, .int 0, .null, .int 0, .int 0, .int 0, .int 0, .int 0, .int 0, .int 0])), (q7, .inl (cy 0, 85, .inl f272))]) := hD
  refine lv_dup hx hb dX6_init_273 rfl ?_
  refine lv_bipush (v := 45) hx hb dX6_init_274 (by decide) ?_
  refine lv_bipush (v := 111) hx hb dX6_init_276 (by decide) ?_
  refine va_iast (i := 45) hx hb hK.1 hP hD hS 1 0 rfl rfl (by unfold vp_in; decide) dX6_init_278 (fun H locs hP hD hS => ?_)
  obtain ⟨f278, ef278⟩ : ∃ z, z = upd f272 ((45 : Int32).toNatClampNeg) 111 := ⟨_, rfl⟩
  rw [← ef278] at hP hD
  have tf278 : ∀ j, j < 46 → f278 j = gTabL.getD j 0 := by rw [ef278]; exact g_tab (i := 45) tf272 rfl
  clear ef278 tf272
  have hP : va_P D vwCl ([(h0, .inr (6, [.null, .null, .null, .null, .null, .int 0, .null, .int 0, .int 0, .null, .int 0, .int 0, .int 0, .int 0, .int 0, .int 0, .int 0])), (q7, .inl (cy 0, 85, .inl f278))]) H := hP
  have hD : va_D (gF h0 s.heap.size) ([(h0, .inr (6, [.null, .null, .null, .null, .null, .int 0, .null, .int 0, .int 0, .null, .int 0, .int 0, .int 0, .int 0, .int 0, .int 0, .int 0])), (q7, .inl (cy 0, 85, .inl f278))]) := hD
  refine lv_dup hx hb dX6_init_279 rfl ?_
  refine lv_bipush (v := 46) hx hb dX6_init_280 (by decide) ?_
  refine lv_bipush (v := 112) hx hb dX6_init_282 (by decide) ?_
  refine va_iast (i := 46) hx hb hK.1 hP hD hS 1 0 rfl rfl (by unfold vp_in; decide) dX6_init_284 (fun H locs hP hD hS => ?_)
  obtain ⟨f284, ef284⟩ : ∃ z, z = upd f278 ((46 : Int32).toNatClampNeg) 112 := ⟨_, rfl⟩
  rw [← ef284] at hP hD
  have tf284 : ∀ j, j < 47 → f284 j = gTabL.getD j 0 := by rw [ef284]; exact g_tab (i := 46) tf278 rfl
  clear ef284 tf278
  have hP : va_P D vwCl ([(h0, .inr (6, [.null, .null, .null, .null, .null, .int 0, .null, .int 0, .int 0, .null, .int 0, .int 0, .int 0, .int 0, .int 0, .int 0, .int 0])), (q7, .inl (cy 0, 85, .inl f284))]) H := hP
  have hD : va_D (gF h0 s.heap.size) ([(h0, .inr (6, [.null, .null, .null, .null, .null, .int 0, .null, .int 0, .int 0, .null, .int 0, .int 0, .int 0, .int 0, .int 0, .int 0, .int 0])), (q7, .inl (cy 0, 85, .inl f284))]) := hD
  refine lv_dup hx hb dX6_init_285 rfl ?_
  refine lv_bipush (v := 47) hx hb dX6_init_286 (by decide) ?_
  refine lv_bipush (v := 101) hx hb dX6_init_288 (by decide) ?_
  refine va_iast (i := 47) hx hb hK.1 hP hD hS 1 0 rfl rfl (by unfold vp_in; decide) dX6_init_290 (fun H locs hP hD hS => ?_)
  obtain ⟨f290, ef290⟩ : ∃ z, z = upd f284 ((47 : Int32).toNatClampNeg) 101 := ⟨_, rfl⟩
  rw [← ef290] at hP hD
  have tf290 : ∀ j, j < 48 → f290 j = gTabL.getD j 0 := by rw [ef290]; exact g_tab (i := 47) tf284 rfl
  clear ef290 tf284
  have hP : va_P D vwCl ([(h0, .inr (6, [.null, .null, .null, .null, .null, .int 0, .null, .int 0, .int 0, .null, .int 0, .int 0, .int 0, .int 0, .int 0, .int 0, .int 0])), (q7, .inl (cy 0, 85, .inl f290))]) H := hP
  have hD : va_D (gF h0 s.heap.size) ([(h0, .inr (6, [.null, .null, .null, .null, .null, .int 0, .null, .int 0, .int 0, .null, .int 0, .int 0, .int 0, .int 0, .int 0, .int 0, .int 0])), (q7, .inl (cy 0, 85, .inl f290))]) := hD
  refine lv_dup hx hb dX6_init_291 rfl ?_
  refine lv_bipush (v := 48) hx hb dX6_init_292 (by decide) ?_
  refine lv_bipush (v := 110) hx hb dX6_init_294 (by decide) ?_
  refine va_iast (i := 48) hx hb hK.1 hP hD hS 1 0 rfl rfl (by unfold vp_in; decide) dX6_init_296 (fun H locs hP hD hS => ?_)
  obtain ⟨f296, ef296⟩ : ∃ z, z = upd f290 ((48 : Int32).toNatClampNeg) 110 := ⟨_, rfl⟩
  rw [← ef296] at hP hD
  have tf296 : ∀ j, j < 49 → f296 j = gTabL.getD j 0 := by rw [ef296]; exact g_tab (i := 48) tf290 rfl
  clear ef296 tf290
  have hP : va_P D vwCl ([(h0, .inr (6, [.null, .null, .null, .null, .null, .int 0, .null, .int 0, .int 0, .null, .int 0, .int 0, .int 0, .int 0, .int 0, .int 0, .int 0])), (q7, .inl (cy 0, 85, .inl f296))]) H := hP
  have hD : va_D (gF h0 s.heap.size) ([(h0, .inr (6, [.null, .null, .null, .null, .null, .int 0, .null, .int 0, .int 0, .null, .int 0, .int 0, .int 0, .int 0, .int 0, .int 0, .int 0])), (q7, .inl (cy 0, 85, .inl f296))]) := hD
  refine lv_dup hx hb dX6_init_297 rfl ?_
  refine lv_bipush (v := 49) hx hb dX6_init_298 (by decide) ?_
  refine lv_bipush (v := 99) hx hb dX6_init_300 (by decide) ?_
  refine va_iast (i := 49) hx hb hK.1 hP hD hS 1 0 rfl rfl (by unfold vp_in; decide) dX6_init_302 (fun H locs hP hD hS => ?_)
  obtain ⟨f302, ef302⟩ : ∃ z, z = upd f296 ((49 : Int32).toNatClampNeg) 99 := ⟨_, rfl⟩
  rw [← ef302] at hP hD
  have tf302 : ∀ j, j < 50 → f302 j = gTabL.getD j 0 := by rw [ef302]; exact g_tab (i := 49) tf296 rfl
  clear ef302 tf296
  have hP : va_P D vwCl ([(h0, .inr (6, [.null, .null, .null, .null, .null, .int 0, .null, .int 0, .int 0, .null, .int 0, .int 0, .int 0, .int 0, .int 0, .int 0, .int 0])), (q7, .inl (cy 0, 85, .inl f302))]) H := hP
  have hD : va_D (gF h0 s.heap.size) ([(h0, .inr (6, [.null, .null, .null, .null, .null, .int 0, .null, .int 0, .int 0, .null, .int 0, .int 0, .int 0, .int 0, .int 0, .int 0, .int 0])), (q7, .inl (cy 0, 85, .inl f302))]) := hD
  refine lv_dup hx hb dX6_init_303 rfl ?_
  refine lv_bipush (v := 50) hx hb dX6_init_304 (by decide) ?_
  refine lv_bipush (v := 108) hx hb dX6_init_306 (by decide) ?_
  refine va_iast (i := 50) hx hb hK.1 hP hD hS 1 0 rfl rfl (by unfold vp_in; decide) dX6_init_308 (fun H locs hP hD hS => ?_)
  obtain ⟨f308, ef308⟩ : ∃ z, z = upd f302 ((50 : Int32).toNatClampNeg) 108 := ⟨_, rfl⟩
  rw [← ef308] at hP hD
  have tf308 : ∀ j, j < 51 → f308 j = gTabL.getD j 0 := by rw [ef308]; exact g_tab (i := 50) tf302 rfl
  clear ef308 tf302
  have hP : va_P D vwCl ([(h0, .inr (6, [.null, .null, .null, .null, .null, .int 0, .null, .int 0, .int 0, .null, .int 0, .int 0, .int 0, .int 0, .int 0, .int 0, .int 0])), (q7, .inl (cy 0, 85, .inl f308))]) H := hP
  have hD : va_D (gF h0 s.heap.size) ([(h0, .inr (6, [.null, .null, .null, .null, .null, .int 0, .null, .int 0, .int 0, .null, .int 0, .int 0, .int 0, .int 0, .int 0, .int 0, .int 0])), (q7, .inl (cy 0, 85, .inl f308))]) := hD
  refine lv_dup hx hb dX6_init_309 rfl ?_
  refine lv_bipush (v := 51) hx hb dX6_init_310 (by decide) ?_
  refine lv_bipush (v := 111) hx hb dX6_init_312 (by decide) ?_
  refine va_iast (i := 51) hx hb hK.1 hP hD hS 1 0 rfl rfl (by unfold vp_in; decide) dX6_init_314 (fun H locs hP hD hS => ?_)
  obtain ⟨f314, ef314⟩ : ∃ z, z = upd f308 ((51 : Int32).toNatClampNeg) 111 := ⟨_, rfl⟩
  rw [← ef314] at hP hD
  have tf314 : ∀ j, j < 52 → f314 j = gTabL.getD j 0 := by rw [ef314]; exact g_tab (i := 51) tf308 rfl
  clear ef314 tf308
  have hP : va_P D vwCl ([(h0, .inr (6, [.null, .null, .null, .null, .null, .int 0, .null, .int 0, .int 0, .null, .int 0, .int 0, .int 0, .int 0, .int 0, .int 0, .int 0])), (q7, .inl (cy 0, 85, .inl f314))]) H := hP
  have hD : va_D (gF h0 s.heap.size) ([(h0, .inr (6, [.null, .null, .null, .null, .null, .int 0, .null, .int 0, .int 0, .null, .int 0, .int 0, .int 0, .int 0, .int 0, .int 0, .int 0])), (q7, .inl (cy 0, 85, .inl f314))]) := hD
  refine lv_dup hx hb dX6_init_315 rfl ?_
  refine lv_bipush (v := 52) hx hb dX6_init_316 (by decide) ?_
  refine lv_bipush (v := 115) hx hb dX6_init_318 (by decide) ?_
  refine va_iast (i := 52) hx hb hK.1 hP hD hS 1 0 rfl rfl (by unfold vp_in; decide) dX6_init_320 (fun H locs hP hD hS => ?_)
  obtain ⟨f320, ef320⟩ : ∃ z, z = upd f314 ((52 : Int32).toNatClampNeg) 115 := ⟨_, rfl⟩
  rw [← ef320] at hP hD
  have tf320 : ∀ j, j < 53 → f320 j = gTabL.getD j 0 := by rw [ef320]; exact g_tab (i := 52) tf314 rfl
  clear ef320 tf314
  have hP : va_P D vwCl ([(h0, .inr (6, [.null, .null, .null, .null, .null, .int 0, .null, .int 0, .int 0, .null, .int 0, .int 0, .int 0, .int 0, .int 0, .int 0, .int 0])), (q7, .inl (cy 0, 85, .inl f320))]) H := hP
  have hD : va_D (gF h0 s.heap.size) ([(h0, .inr (6, [.null, .null, .null, .null, .null, .int 0, .null, .int 0, .int 0, .null, .int 0, .int 0, .int 0, .int 0, .int 0, .int 0, .int 0])), (q7, .inl (cy 0, 85, .inl f320))]) := hD
  refine lv_dup hx hb dX6_init_321 rfl ?_
  refine lv_bipush (v := 53) hx hb dX6_init_322 (by decide) ?_
  refine lv_bipush (v := 101) hx hb dX6_init_324 (by decide) ?_
  refine va_iast (i := 53) hx hb hK.1 hP hD hS 1 0 rfl rfl (by unfold vp_in; decide) dX6_init_326 (fun H locs hP hD hS => ?_)
  obtain ⟨f326, ef326⟩ : ∃ z, z = upd f320 ((53 : Int32).toNatClampNeg) 101 := ⟨_, rfl⟩
  rw [← ef326] at hP hD
  have tf326 : ∀ j, j < 54 → f326 j = gTabL.getD j 0 := by rw [ef326]; exact g_tab (i := 53) tf320 rfl
  clear ef326 tf320
  have hP : va_P D vwCl ([(h0, .inr (6, [.null, .null, .null, .null, .null, .int 0, .null, .int 0, .int 0, .null, .int 0, .int 0, .int 0, .int 0, .int 0, .int 0, .int 0])), (q7, .inl (cy 0, 85, .inl f326))]) H := hP
  have hD : va_D (gF h0 s.heap.size) ([(h0, .inr (6, [.null, .null, .null, .null, .null, .int 0, .null, .int 0, .int 0, .null, .int 0, .int 0, .int 0, .int 0, .int 0, .int 0, .int 0])), (q7, .inl (cy 0, 85, .inl f326))]) := hD
  refine lv_dup hx hb dX6_init_327 rfl ?_
  refine lv_bipush (v := 54) hx hb dX6_init_328 (by decide) ?_
  refine lv_bipush (v := 101) hx hb dX6_init_330 (by decide) ?_
  refine va_iast (i := 54) hx hb hK.1 hP hD hS 1 0 rfl rfl (by unfold vp_in; decide) dX6_init_332 (fun H locs hP hD hS => ?_)
  obtain ⟨f332, ef332⟩ : ∃ z, z = upd f326 ((54 : Int32).toNatClampNeg) 101 := ⟨_, rfl⟩
  rw [← ef332] at hP hD
  have tf332 : ∀ j, j < 55 → f332 j = gTabL.getD j 0 := by rw [ef332]; exact g_tab (i := 54) tf326 rfl
  clear ef332 tf326
  have hP : va_P D vwCl ([(h0, .inr (6, [.null, .null, .null, .null, .null, .int 0, .null, .int 0, .int 0, .null, .int 0, .int 0, .int 0, .int 0, .int 0, .int 0, .int 0])), (q7, .inl (cy 0, 85, .inl f332))]) H := hP
  have hD : va_D (gF h0 s.heap.size) ([(h0, .inr (6, [.null, .null, .null, .null, .null, .int 0, .null, .int 0, .int 0, .null, .int 0, .int 0, .int 0, .int 0, .int 0, .int 0, .int 0])), (q7, .inl (cy 0, 85, .inl f332))]) := hD
  refine lv_dup hx hb dX6_init_333 rfl ?_
  refine lv_bipush (v := 55) hx hb dX6_init_334 (by decide) ?_
  refine lv_bipush (v := 97) hx hb dX6_init_336 (by decide) ?_
  refine va_iast (i := 55) hx hb hK.1 hP hD hS 1 0 rfl rfl (by unfold vp_in; decide) dX6_init_338 (fun H locs hP hD hS => ?_)
  obtain ⟨f338, ef338⟩ : ∃ z, z = upd f332 ((55 : Int32).toNatClampNeg) 97 := ⟨_, rfl⟩
  rw [← ef338] at hP hD
  have tf338 : ∀ j, j < 56 → f338 j = gTabL.getD j 0 := by rw [ef338]; exact g_tab (i := 55) tf332 rfl
  clear ef338 tf332
  have hP : va_P D vwCl ([(h0, .inr (6, [.null, .null, .null, .null, .null, .int 0, .null, .int 0, .int 0, .null, .int 0, .int 0, .int 0, .int 0, .int 0, .int 0, .int 0])), (q7, .inl (cy 0, 85, .inl f338))]) H := hP
  have hD : va_D (gF h0 s.heap.size) ([(h0, .inr (6, [.null, .null, .null, .null, .null, .int 0, .null, .int 0, .int 0, .null, .int 0, .int 0, .int 0, .int 0, .int 0, .int 0, .int 0])), (q7, .inl (cy 0, 85, .inl f338))]) := hD
  refine lv_dup hx hb dX6_init_339 rfl ?_
  refine lv_bipush (v := 56) hx hb dX6_init_340 (by decide) ?_
  refine lv_bipush (v := 115) hx hb dX6_init_342 (by decide) ?_
  refine va_iast (i := 56) hx hb hK.1 hP hD hS 1 0 rfl rfl (by unfold vp_in; decide) dX6_init_344 (fun H locs hP hD hS => ?_)
  obtain ⟨f344, ef344⟩ : ∃ z, z = upd f338 ((56 : Int32).toNatClampNeg) 115 := ⟨_, rfl⟩
  rw [← ef344] at hP hD
  have tf344 : ∀ j, j < 57 → f344 j = gTabL.getD j 0 := by rw [ef344]; exact g_tab (i := 56) tf338 rfl
  clear ef344 tf338
  have hP : va_P D vwCl ([(h0, .inr (6, [.null, .null, .null, .null, .null, .int 0, .null, .int 0, .int 0, .null, .int 0, .int 0, .int 0, .int 0, .int 0, .int 0, .int 0])), (q7, .inl (cy 0, 85, .inl f344))]) H := hP
  have hD : va_D (gF h0 s.heap.size) ([(h0, .inr (6, [.null, .null, .null, .null, .null, .int 0, .null, .int 0, .int 0, .null, .int 0, .int 0, .int 0, .int 0, .int 0, .int 0, .int 0])), (q7, .inl (cy 0, 85, .inl f344))]) := hD
  refine lv_dup hx hb dX6_init_345 rfl ?_
  refine lv_bipush (v := 57) hx hb dX6_init_346 (by decide) ?_
  refine lv_bipush (v := 116) hx hb dX6_init_348 (by decide) ?_
  refine va_iast (i := 57) hx hb hK.1 hP hD hS 1 0 rfl rfl (by unfold vp_in; decide) dX6_init_350 (fun H locs hP hD hS => ?_)
  obtain ⟨f350, ef350⟩ : ∃ z, z = upd f344 ((57 : Int32).toNatClampNeg) 116 := ⟨_, rfl⟩
  rw [← ef350] at hP hD
  have tf350 : ∀ j, j < 58 → f350 j = gTabL.getD j 0 := by rw [ef350]; exact g_tab (i := 57) tf344 rfl
  clear ef350 tf344
  have hP : va_P D vwCl ([(h0, .inr (6, [.null, .null, .null, .null, .null, .int 0, .null, .int 0, .int 0, .null, .int 0, .int 0, .int 0, .int 0, .int 0, .int 0, .int 0])), (q7, .inl (cy 0, 85, .inl f350))]) H := hP
  have hD : va_D (gF h0 s.heap.size) ([(h0, .inr (6, [.null, .null, .null, .null, .null, .int 0, .null, .int 0, .int 0, .null, .int 0, .int 0, .int 0, .int 0, .int 0, .int 0, .int 0])), (q7, .inl (cy 0, 85, .inl f350))]) := hD
  refine lv_dup hx hb dX6_init_351 rfl ?_
  refine lv_bipush (v := 58) hx hb dX6_init_352 (by decide) ?_
  refine lv_bipush (v := 119) hx hb dX6_init_354 (by decide) ?_
  refine va_iast (i := 58) hx hb hK.1 hP hD hS 1 0 rfl rfl (by unfold vp_in; decide) dX6_init_356 (fun H locs hP hD hS => ?_)
  obtain ⟨f356, ef356⟩ : ∃ z, z = upd f350 ((58 : Int32).toNatClampNeg) 119 := ⟨_, rfl⟩
  rw [← ef356] at hP hD
  have tf356 : ∀ j, j < 59 → f356 j = gTabL.getD j 0 := by rw [ef356]; exact g_tab (i := 58) tf350 rfl
  clear ef356 tf350
  have hP : va_P D vwCl ([(h0, .inr (6, [.null, .null, .null, .null, .null, .int 0, .null, .int 0, .int 0, .null, .int 0, .int 0, .int 0, .int 0, .int 0, .int 0, .int 0])), (q7, .inl (cy 0, 85, .inl f356))]) H := hP
  have hD : va_D (gF h0 s.heap.size) ([(h0, .inr (6, [.null, .null, .null, .null, .null, .int 0, .null, .int 0, .int 0, .null, .int 0, .int 0, .int 0, .int 0, .int 0, .int 0, .int 0])), (q7, .inl (cy 0, 85, .inl f356))]) := hD
  refine lv_dup hx hb dX6_init_357 rfl ?_
  refine lv_bipush (v := 59) hx hb dX6_init_358 (by decide) ?_
  refine lv_bipush (v := 101) hx hb dX6_init_360 (by decide) ?_
  refine va_iast (i := 59) hx hb hK.1 hP hD hS 1 0 rfl rfl (by unfold vp_in; decide) dX6_init_362 (fun H locs hP hD hS => ?_)
  obtain ⟨f362, ef362⟩ : ∃ z, z = upd f356 ((59 : Int32).toNatClampNeg) 101 := ⟨_, rfl⟩
  rw [← ef362] at hP hD
  have tf362 : ∀ j, j < 60 → f362 j = gTabL.getD j 0 := by rw [ef362]; exact g_tab (i := 59) tf356 rfl
  clear ef362 tf356
  have hP : va_P D vwCl ([(h0, .inr (6, [.null, .null, .null, .null, .null, .int 0, .null, .int 0, .int 0, .null, .int 0, .int 0, .int 0, .int 0, .int 0, .int 0, .int 0])), (q7, .inl (cy 0, 85, .inl f362))]) H := hP
  have hD : va_D (gF h0 s.heap.size) ([(h0, .inr (6, [.null, .null, .null, .null, .null, .int 0, .null, .int 0, .int 0, .null, .int 0, .int 0, .int 0, .int 0, .int 0, .int 0, .int 0])), (q7, .inl (cy 0, 85, .inl f362))]) := hD
  refine lv_dup hx hb dX6_init_363 rfl ?_
  refine lv_bipush (v := 60) hx hb dX6_init_364 (by decide) ?_
  refine lv_bipush (v := 115) hx hb dX6_init_366 (by decide) ?_
  refine va_iast (i := 60) hx hb hK.1 hP hD hS 1 0 rfl rfl (by unfold vp_in; decide) dX6_init_368 (fun H locs hP hD hS => ?_)
  obtain ⟨f368, ef368⟩ : ∃ z, z = upd f362 ((60 : Int32).toNatClampNeg) 115 := ⟨_, rfl⟩
  rw [← ef368] at hP hD
  have tf368 : ∀ j, j < 61 → f368 j = gTabL.getD j 0 := by rw [ef368]; exact g_tab (i := 60) tf362 rfl
  clear ef368 tf362
  have hP : va_P D vwCl ([(h0, .inr (6, [.null, .null, .null, .null, .null, .int 0, .null, .int 0, .int 0, .null, .int 0, .int 0, .int 0, .int 0, .int 0, .int 0, .int 0])), (q7, .inl (cy 0, 85, .inl f368))]) H := hP
  have hD : va_D (gF h0 s.heap.size) ([(h0, .inr (6, [.null, .null, .null, .null, .null, .int 0, .null, .int 0, .int 0, .null, .int 0, .int 0, .int 0, .int 0, .int 0, .int 0, .int 0])), (q7, .inl (cy 0, 85, .inl f368))]) := hD
  refine lv_dup hx hb dX6_init_369 rfl ?_
  refine lv_bipush (v := 61) hx hb dX6_init_370 (by decide) ?_
  refine lv_bipush (v := 116) hx hb dX6_init_372 (by decide) ?_
  refine va_iast (i := 61) hx hb hK.1 hP hD hS 1 0 rfl rfl (by unfold vp_in; decide) dX6_init_374 (fun H locs hP hD hS => ?_)
  obtain ⟨f374, ef374⟩ : ∃ z, z = upd f368 ((61 : Int32).toNatClampNeg) 116 := ⟨_, rfl⟩
  rw [← ef374] at hP hD
  have tf374 : ∀ j, j < 62 → f374 j = gTabL.getD j 0 := by rw [ef374]; exact g_tab (i := 61) tf368 rfl
  clear ef374 tf368
  have hP : va_P D vwCl ([(h0, .inr (6, [.null, .null, .null, .null, .null, .int 0, .null, .int 0, .int 0, .null, .int 0, .int 0, .int 0, .int 0, .int 0, .int 0, .int 0])), (q7, .inl (cy 0, 85, .inl f374))]) H := hP
  have hD : va_D (gF h0 s.heap.size) ([(h0, .inr (6, [.null, .null, .null, .null, .null, .int 0, .null, .int 0, .int 0, .null, .int 0, .int 0, .int 0, .int 0, .int 0, .int 0, .int 0])), (q7, .inl (cy 0, 85, .inl f374))]) := hD
  refine lv_dup hx hb dX6_init_375 rfl ?_
  refine lv_bipush (v := 62) hx hb dX6_init_376 (by decide) ?_
  refine lv_bipush (v := 97) hx hb dX6_init_378 (by decide) ?_
  refine va_iast (i := 62) hx hb hK.1 hP hD hS 1 0 rfl rfl (by unfold vp_in; decide) dX6_init_380 (fun H locs hP hD hS => ?_)
  obtain ⟨f380, ef380⟩ : ∃ z, z = upd f374 ((62 : Int32).toNatClampNeg) 97 := ⟨_, rfl⟩
  rw [← ef380] at hP hD
  have tf380 : ∀ j, j < 63 → f380 j = gTabL.getD j 0 := by rw [ef380]; exact g_tab (i := 62) tf374 rfl
  clear ef380 tf374
  have hP : va_P D vwCl ([(h0, .inr (6, [.null, .null, .null, .null, .null, .int 0, .null, .int 0, .int 0, .null, .int 0, .int 0, .int 0, .int 0, .int 0, .int 0, .int 0])), (q7, .inl (cy 0, 85, .inl f380))]) H := hP
  have hD : va_D (gF h0 s.heap.size) ([(h0, .inr (6, [.null, .null, .null, .null, .null, .int 0, .null, .int 0, .int 0, .null, .int 0, .int 0, .int 0, .int 0, .int 0, .int 0, .int 0])), (q7, .inl (cy 0, 85, .inl f380))]) := hD
  refine lv_dup hx hb dX6_init_381 rfl ?_
  refine lv_bipush (v := 63) hx hb dX6_init_382 (by decide) ?_
  refine lv_bipush (v := 108) hx hb dX6_init_384 (by decide) ?_
  refine va_iast (i := 63) hx hb hK.1 hP hD hS 1 0 rfl rfl (by unfold vp_in; decide) dX6_init_386 (fun H locs hP hD hS => ?_)
  obtain ⟨f386, ef386⟩ : ∃ z, z = upd f380 ((63 : Int32).toNatClampNeg) 108 := ⟨_, rfl⟩
  rw [← ef386] at hP hD
  have tf386 : ∀ j, j < 64 → f386 j = gTabL.getD j 0 := by rw [ef386]; exact g_tab (i := 63) tf380 rfl
  clear ef386 tf380
  have hP : va_P D vwCl ([(h0, .inr (6, [.null, .null, .null, .null, .null, .int 0, .null, .int 0, .int 0, .null, .int 0, .int 0, .int 0, .int 0, .int 0, .int 0, .int 0])), (q7, .inl (cy 0, 85, .inl f386))]) H := hP
  have hD : va_D (gF h0 s.heap.size) ([(h0, .inr (6, [.null, .null, .null, .null, .null, .int 0, .null, .int 0, .int 0, .null, .int 0, .int 0, .int 0, .int 0, .int 0, .int 0, .int 0])), (q7, .inl (cy 0, 85, .inl f386))]) := hD
  refine lv_dup hx hb dX6_init_387 rfl ?_
  refine lv_bipush (v := 64) hx hb dX6_init_388 (by decide) ?_
  refine lv_bipush (v := 108) hx hb dX6_init_390 (by decide) ?_
  refine va_iast (i := 64) hx hb hK.1 hP hD hS 1 0 rfl rfl (by unfold vp_in; decide) dX6_init_392 (fun H locs hP hD hS => ?_)
  obtain ⟨f392, ef392⟩ : ∃ z, z = upd f386 ((64 : Int32).toNatClampNeg) 108 := ⟨_, rfl⟩
  rw [← ef392] at hP hD
  have tf392 : ∀ j, j < 65 → f392 j = gTabL.getD j 0 := by rw [ef392]; exact g_tab (i := 64) tf386 rfl
  clear ef392 tf386
  have hP : va_P D vwCl ([(h0, .inr (6, [.null, .null, .null, .null, .null, .int 0, .null, .int 0, .int 0, .null, .int 0, .int 0, .int 0, .int 0, .int 0, .int 0, .int 0])), (q7, .inl (cy 0, 85, .inl f392))]) H := hP
  have hD : va_D (gF h0 s.heap.size) ([(h0, .inr (6, [.null, .null, .null, .null, .null, .int 0, .null, .int 0, .int 0, .null, .int 0, .int 0, .int 0, .int 0, .int 0, .int 0, .int 0])), (q7, .inl (cy 0, 85, .inl f392))]) := hD
  refine lv_dup hx hb dX6_init_393 rfl ?_
  refine lv_bipush (v := 65) hx hb dX6_init_394 (by decide) ?_
  refine lv_bipush (v := 98) hx hb dX6_init_396 (by decide) ?_
  refine va_iast (i := 65) hx hb hK.1 hP hD hS 1 0 rfl rfl (by unfold vp_in; decide) dX6_init_398 (fun H locs hP hD hS => ?_)
  obtain ⟨f398, ef398⟩ : ∃ z, z = upd f392 ((65 : Int32).toNatClampNeg) 98 := ⟨_, rfl⟩
  rw [← ef398] at hP hD
  have tf398 : ∀ j, j < 66 → f398 j = gTabL.getD j 0 := by rw [ef398]; exact g_tab (i := 65) tf392 rfl
  clear ef398 tf392
  have hP : va_P D vwCl ([(h0, .inr (6, [.null, .null, .null, .null, .null, .int 0, .null, .int 0, .int 0, .null, .int 0, .int 0, .int 0, .int 0, .int 0, .int 0, .int 0])), (q7, .inl (cy 0, 85, .inl f398))]) H := hP
  have hD : va_D (gF h0 s.heap.size) ([(h0, .inr (6, [.null, .null, .null, .null, .null, .int 0, .null, .int 0, .int 0, .null, .int 0, .int 0, .int 0, .int 0, .int 0, .int 0, .int 0])), (q7, .inl (cy 0, 85, .inl f398))]) := hD
  refine lv_dup hx hb dX6_init_399 rfl ?_
  refine lv_bipush (v := 66) hx hb dX6_init_400 (by decide) ?_
  refine lv_bipush (v := 117) hx hb dX6_init_402 (by decide) ?_
  refine va_iast (i := 66) hx hb hK.1 hP hD hS 1 0 rfl rfl (by unfold vp_in; decide) dX6_init_404 (fun H locs hP hD hS => ?_)
  obtain ⟨f404, ef404⟩ : ∃ z, z = upd f398 ((66 : Int32).toNatClampNeg) 117 := ⟨_, rfl⟩
  rw [← ef404] at hP hD
  have tf404 : ∀ j, j < 67 → f404 j = gTabL.getD j 0 := by rw [ef404]; exact g_tab (i := 66) tf398 rfl
  clear ef404 tf398
  have hP : va_P D vwCl ([(h0, .inr (6, [.null, .null, .null, .null, .null, .int 0, .null, .int 0, .int 0, .null, .int 0, .int 0, .int 0, .int 0, .int 0, .int 0, .int 0])), (q7, .inl (cy 0, 85, .inl f404))]) H := hP
  have hD : va_D (gF h0 s.heap.size) ([(h0, .inr (6, [.null, .null, .null, .null, .null, .int 0, .null, .int 0, .int 0, .null, .int 0, .int 0, .int 0, .int 0, .int 0, .int 0, .int 0])), (q7, .inl (cy 0, 85, .inl f404))]) := hD
  refine lv_dup hx hb dX6_init_405 rfl ?_
  refine lv_bipush (v := 67) hx hb dX6_init_406 (by decide) ?_
  refine lv_bipush (v := 116) hx hb dX6_init_408 (by decide) ?_
  refine va_iast (i := 67) hx hb hK.1 hP hD hS 1 0 rfl rfl (by unfold vp_in; decide) dX6_init_410 (fun H locs hP hD hS => ?_)
  obtain ⟨f410, ef410⟩ : ∃ z, z = upd f404 ((67 : Int32).toNatClampNeg) 116 := ⟨_, rfl⟩
  rw [← ef410] at hP hD
  have tf410 : ∀ j, j < 68 → f410 j = gTabL.getD j 0 := by rw [ef410]; exact g_tab (i := 67) tf404 rfl
  clear ef410 tf404
  have hP : va_P D vwCl ([(h0, .inr (6, [.null, .null, .null, .null, .null, .int 0, .null, .int 0, .int 0, .null, .int 0, .int 0, .int 0, .int 0, .int 0, .int 0, .int 0])), (q7, .inl (cy 0, 85, .inl f410))]) H := hP
  have hD : va_D (gF h0 s.heap.size) ([(h0, .inr (6, [.null, .null, .null, .null, .null, .int 0, .null, .int 0, .int 0, .null, .int 0, .int 0, .int 0, .int 0, .int 0, .int 0, .int 0])), (q7, .inl (cy 0, 85, .inl f410))]) := hD
  refine lv_dup hx hb dX6_init_411 rfl ?_
  refine lv_bipush (v := 68) hx hb dX6_init_412 (by decide) ?_
  refine lv_bipush (v := 97) hx hb dX6_init_414 (by decide) ?_
  refine va_iast (i := 68) hx hb hK.1 hP hD hS 1 0 rfl rfl (by unfold vp_in; decide) dX6_init_416 (fun H locs hP hD hS => ?_)
  obtain ⟨f416, ef416⟩ : ∃ z, z = upd f410 ((68 : Int32).toNatClampNeg) 97 := ⟨_, rfl⟩
  rw [← ef416] at hP hD
  have tf416 : ∀ j, j < 69 → f416 j = gTabL.getD j 0 := by rw [ef416]; exact g_tab (i := 68) tf410 rfl
  clear ef416 tf410
  have hP : va_P D vwCl ([(h0, .inr (6, [.null, .null, .null, .null, .null, .int 0, .null, .int 0, .int 0, .null, .int 0, .int 0, .int 0, .int 0, .int 0, .int 0, .int 0])), (q7, .inl (cy 0, 85, .inl f416))]) H := hP
  have hD : va_D (gF h0 s.heap.size) ([(h0, .inr (6, [.null, .null, .null, .null, .null, .int 0, .null, .int 0, .int 0, .null, .int 0, .int 0, .int 0, .int 0, .int 0, .int 0, .int 0])), (q7, .inl (cy 0, 85, .inl f416))]) := hD
  refine lv_dup hx hb dX6_init_417 rfl ?_
  refine lv_bipush (v := 69) hx hb dX6_init_418 (by decide) ?_
  refine lv_bipush (v := 110) hx hb dX6_init_420 (by decide) ?_
  refine va_iast (i := 69) hx hb hK.1 hP hD hS 1 0 rfl rfl (by unfold vp_in; decide) dX6_init_422 (fun H locs hP hD hS => ?_)
  obtain ⟨f422, ef422⟩ : ∃ z, z = upd f416 ((69 : Int32).toNatClampNeg) 110 := ⟨_, rfl⟩
  rw [← ef422] at hP hD
  have tf422 : ∀ j, j < 70 → f422 j = gTabL.getD j 0 := by rw [ef422]; exact g_tab (i := 69) tf416 rfl
  clear ef422 tf416
  have hP : va_P D vwCl ([(h0, .inr (6, [.null, .null, .null, .null, .null, .int 0, .null, .int 0, .int 0, .null, .int 0, .int 0, .int 0, .int 0, .int 0, .int 0, .int 0])), (q7, .inl (cy 0, 85, .inl f422))]) H := hP
  have hD : va_D (gF h0 s.heap.size) ([(h0, .inr (6, [.null, .null, .null, .null, .null, .int 0, .null, .int 0, .int 0, .null, .int 0, .int 0, .int 0, .int 0, .int 0, .int 0, .int 0])), (q7, .inl (cy 0, 85, .inl f422))]) := hD
  refine lv_dup hx hb dX6_init_423 rfl ?_
  refine lv_bipush (v := 70) hx hb dX6_init_424 (by decide) ?_
  refine lv_bipush (v := 100) hx hb dX6_init_426 (by decide) ?_
  refine va_iast (i := 70) hx hb hK.1 hP hD hS 1 0 rfl rfl (by unfold vp_in; decide) dX6_init_428 (fun H locs hP hD hS => ?_)
  obtain ⟨f428, ef428⟩ : ∃ z, z = upd f422 ((70 : Int32).toNatClampNeg) 100 := ⟨_, rfl⟩
  rw [← ef428] at hP hD
  have tf428 : ∀ j, j < 71 → f428 j = gTabL.getD j 0 := by rw [ef428]; exact g_tab (i := 70) tf422 rfl
  clear ef428 tf422
  have hP : va_P D vwCl ([(h0, .inr (6, [.null, .null, .null, .null, .null, .int 0, .null, .int 0, .int 0, .null, .int 0, .int 0, .int 0, .int 0, .int 0, .int 0, .int 0])), (q7, .inl (cy 0, 85, .inl f428))]) H := hP
  have hD : va_D (gF h0 s.heap.size) ([(h0, .inr (6, [.null, .null, .null, .null, .null, .int 0, .null, .int 0, .int 0, .null, .int 0, .int 0, .int 0, .int 0, .int 0, .int 0, .int 0])), (q7, .inl (cy 0, 85, .inl f428))]) := hD
  refine lv_dup hx hb dX6_init_429 rfl ?_
  refine lv_bipush (v := 71) hx hb dX6_init_430 (by decide) ?_
  refine lv_bipush (v := 105) hx hb dX6_init_432 (by decide) ?_
  refine va_iast (i := 71) hx hb hK.1 hP hD hS 1 0 rfl rfl (by unfold vp_in; decide) dX6_init_434 (fun H locs hP hD hS => ?_)
  obtain ⟨f434, ef434⟩ : ∃ z, z = upd f428 ((71 : Int32).toNatClampNeg) 105 := ⟨_, rfl⟩
  rw [← ef434] at hP hD
  have tf434 : ∀ j, j < 72 → f434 j = gTabL.getD j 0 := by rw [ef434]; exact g_tab (i := 71) tf428 rfl
  clear ef434 tf428
  have hP : va_P D vwCl ([(h0, .inr (6, [.null, .null, .null, .null, .null, .int 0, .null, .int 0, .int 0, .null, .int 0, .int 0, .int 0, .int 0, .int 0, .int 0, .int 0])), (q7, .inl (cy 0, 85, .inl f434))]) H := hP
  have hD : va_D (gF h0 s.heap.size) ([(h0, .inr (6, [.null, .null, .null, .null, .null, .int 0, .null, .int 0, .int 0, .null, .int 0, .int 0, .int 0, .int 0, .int 0, .int 0, .int 0])), (q7, .inl (cy 0, 85, .inl f434))]) := hD
  refine lv_dup hx hb dX6_init_435 rfl ?_
  refine lv_bipush (v := 72) hx hb dX6_init_436 (by decide) ?_
  refine lv_bipush (v := 110) hx hb dX6_init_438 (by decide) ?_
  refine va_iast (i := 72) hx hb hK.1 hP hD hS 1 0 rfl rfl (by unfold vp_in; decide) dX6_init_440 (fun H locs hP hD hS => ?_)
  obtain ⟨f440, ef440⟩ : ∃ z, z = upd f434 ((72 : Int32).toNatClampNeg) 110 := ⟨_, rfl⟩
  rw [← ef440] at hP hD
  have tf440 : ∀ j, j < 73 → f440 j = gTabL.getD j 0 := by rw [ef440]; exact g_tab (i := 72) tf434 rfl
  clear ef440 tf434
  have hP : va_P D vwCl ([(h0, .inr (6, [.null, .null, .null, .null, .null, .int 0, .null, .int 0, .int 0, .null, .int 0, .int 0, .int 0, .int 0, .int 0, .int 0, .int 0])), (q7, .inl (cy 0, 85, .inl f440))]) H := hP
  have hD : va_D (gF h0 s.heap.size) ([(h0, .inr (6, [.null, .null, .null, .null, .null, .int 0, .null, .int 0, .int 0, .null, .int 0, .int 0, .int 0, .int 0, .int 0, .int 0, .int 0])), (q7, .inl (cy 0, 85, .inl f440))]) := hD
  refine lv_dup hx hb dX6_init_441 rfl ?_
  refine lv_bipush (v := 73) hx hb dX6_init_442 (by decide) ?_
  refine lv_bipush (v := 116) hx hb dX6_init_444 (by decide) ?_
  refine va_iast (i := 73) hx hb hK.1 hP hD hS 1 0 rfl rfl (by unfold vp_in; decide) dX6_init_446 (fun H locs hP hD hS => ?_)
  obtain ⟨f446, ef446⟩ : ∃ z, z = upd f440 ((73 : Int32).toNatClampNeg) 116 := ⟨_, rfl⟩
  rw [← ef446] at hP hD
  have tf446 : ∀ j, j < 74 → f446 j = gTabL.getD j 0 := by rw [ef446]; exact g_tab (i := 73) tf440 rfl
  clear ef446 tf440
  have hP : va_P D vwCl ([(h0, .inr (6, [.null, .null, .null, .null, .null, .int 0, .null, .int 0, .int 0, .null, .int 0, .int 0, .int 0, .int 0, .int 0, .int 0, .int 0])), (q7, .inl (cy 0, 85, .inl f446))]) H := hP
  have hD : va_D (gF h0 s.heap.size) ([(h0, .inr (6, [.null, .null, .null, .null, .null, .int 0, .null, .int 0, .int 0, .null, .int 0, .int 0, .int 0, .int 0, .int 0, .int 0, .int 0])), (q7, .inl (cy 0, 85, .inl f446))]) := hD
  refine lv_dup hx hb dX6_init_447 rfl ?_
  refine lv_bipush (v := 74) hx hb dX6_init_448 (by decide) ?_
  refine lv_bipush (v := 104) hx hb dX6_init_450 (by decide) ?_
  refine va_iast (i := 74) hx hb hK.1 hP hD hS 1 0 rfl rfl (by unfold vp_in; decide) dX6_init_452 (fun H locs hP hD hS => ?_)
  obtain ⟨f452, ef452⟩ : ∃ z, z = upd f446 ((74 : Int32).toNatClampNeg) 104 := ⟨_, rfl⟩
  rw [← ef452] at hP hD
  have tf452 : ∀ j, j < 75 → f452 j = gTabL.getD j 0 := by rw [ef452]; exact g_tab (i := 74) tf446 rfl
  clear ef452 tf446
  have hP : va_P D vwCl ([(h0, .inr (6, [.null, .null, .null, .null, .null, .int 0, .null, .int 0, .int 0, .null, .int 0, .int 0, .int 0, .int 0, .int 0, .int 0, .int 0])), (q7, .inl (cy 0, 85, .inl f452))]) H := hP
  have hD : va_D (gF h0 s.heap.size) ([(h0, .inr (6, [.null, .null, .null, .null, .null, .int 0, .null, .int 0, .int 0, .null, .int 0, .int 0, .int 0, .int 0, .int 0, .int 0, .int 0])), (q7, .inl (cy 0, 85, .inl f452))]) := hD
  refine lv_dup hx hb dX6_init_453 rfl ?_
  refine lv_bipush (v := 75) hx hb dX6_init_454 (by decide) ?_
  refine lv_bipush (v := 101) hx hb dX6_init_456 (by decide) ?_
  refine va_iast (i := 75) hx hb hK.1 hP hD hS 1 0 rfl rfl (by unfold vp_in; decide) dX6_init_458 (fun H locs hP hD hS => ?_)
  obtain ⟨f458, ef458⟩ : ∃ z, z = upd f452 ((75 : Int32).toNatClampNeg) 101 := ⟨_, rfl⟩
  rw [← ef458] at hP hD
  have tf458 : ∀ j, j < 76 → f458 j = gTabL.getD j 0 := by rw [ef458]; exact g_tab (i := 75) tf452 rfl
  clear ef458 tf452
  have hP : va_P D vwCl ([(h0, .inr (6, [.null, .null, .null, .null, .null, .int 0, .null, .int 0, .int 0, .null, .int 0, .int 0, .int 0, .int 0, .int 0, .int 0, .int 0])), (q7, .inl (cy 0, 85, .inl f458))]) H := hP
  have hD : va_D (gF h0 s.heap.size) ([(h0, .inr (6, [.null, .null, .null, .null, .null, .int 0, .null, .int 0, .int 0, .null, .int 0, .int 0, .int 0, .int 0, .int 0, .int 0, .int 0])), (q7, .inl (cy 0, 85, .inl f458))]) := hD
  refine lv_dup hx hb dX6_init_459 rfl ?_
  refine lv_bipush (v := 76) hx hb dX6_init_460 (by decide) ?_
  refine lv_bipush (v := 105) hx hb dX6_init_462 (by decide) ?_
  refine va_iast (i := 76) hx hb hK.1 hP hD hS 1 0 rfl rfl (by unfold vp_in; decide) dX6_init_464 (fun H locs hP hD hS => ?_)
  obtain ⟨f464, ef464⟩ : ∃ z, z = upd f458 ((76 : Int32).toNatClampNeg) 105 := ⟨_, rfl⟩
  rw [← ef464] at hP hD
  have tf464 : ∀ j, j < 77 → f464 j = gTabL.getD j 0 := by rw [ef464]; exact g_tab (i := 76) tf458 rfl
  clear ef464 tf458
  have hP : va_P D vwCl ([(h0, .inr (6, [.null, .null, .null, .null, .null, .int 0, .null, .int 0, .int 0, .null, .int 0, .int 0, .int 0, .int 0, .int 0, .int 0, .int 0])), (q7, .inl (cy 0, 85, .inl f464))]) H := hP
  have hD : va_D (gF h0 s.heap.size) ([(h0, .inr (6, [.null, .null, .null, .null, .null, .int 0, .null, .int 0, .int 0, .null, .int 0, .int 0, .int 0, .int 0, .int 0, .int 0, .int 0])), (q7, .inl (cy 0, 85, .inl f464))]) := hD
  refine lv_dup hx hb dX6_init_465 rfl ?_
  refine lv_bipush (v := 77) hx hb dX6_init_466 (by decide) ?_
  refine lv_bipush (v := 116) hx hb dX6_init_468 (by decide) ?_
  refine va_iast (i := 77) hx hb hK.1 hP hD hS 1 0 rfl rfl (by unfold vp_in; decide) dX6_init_470 (fun H locs hP hD hS => ?_)
  obtain ⟨f470, ef470⟩ : ∃ z, z = upd f464 ((77 : Int32).toNatClampNeg) 116 := ⟨_, rfl⟩
  rw [← ef470] at hP hD
  have tf470 : ∀ j, j < 78 → f470 j = gTabL.getD j 0 := by rw [ef470]; exact g_tab (i := 77) tf464 rfl
  clear ef470 tf464
  have hP : va_P D vwCl ([(h0, .inr (6, [.null, .null, .null, .null, .null, .int 0, .null, .int 0, .int 0, .null, .int 0, .int 0, .int 0, .int 0, .int 0, .int 0, .int 0])), (q7, .inl (cy 0, 85, .inl f470))]) H := hP
  have hD : va_D (gF h0 s.heap.size) ([(h0, .inr (6, [.null, .null, .null, .null, .null, .int 0, .null, .int 0, .int 0, .null, .int 0, .int 0, .int 0, .int 0, .int 0, .int 0, .int 0])), (q7, .inl (cy 0, 85, .inl f470))]) := hD
  refine lv_dup hx hb dX6_init_471 rfl ?_
  refine lv_bipush (v := 78) hx hb dX6_init_472 (by decide) ?_
  refine lv_bipush (v := 116) hx hb dX6_init_474 (by decide) ?_
  refine va_iast (i := 78) hx hb hK.1 hP hD hS 1 0 rfl rfl (by unfold vp_in; decide) dX6_init_476 (fun H locs hP hD hS => ?_)
  obtain ⟨f476, ef476⟩ : ∃ z, z = upd f470 ((78 : Int32).toNatClampNeg) 116 := ⟨_, rfl⟩
  rw [← ef476] at hP hD
  have tf476 : ∀ j, j < 79 → f476 j = gTabL.getD j 0 := by rw [ef476]; exact g_tab (i := 78) tf470 rfl
  clear ef476 tf470
  have hP : va_P D vwCl ([(h0, .inr (6, [.null, .null, .null, .null, .null, .int 0, .null, .int 0, .int 0, .null, .int 0, .int 0, .int 0, .int 0, .int 0, .int 0, .int 0])), (q7, .inl (cy 0, 85, .inl f476))]) H := hP
  have hD : va_D (gF h0 s.heap.size) ([(h0, .inr (6, [.null, .null, .null, .null, .null, .int 0, .null, .int 0, .int 0, .null, .int 0, .int 0, .int 0, .int 0, .int 0, .int 0, .int 0])), (q7, .inl (cy 0, 85, .inl f476))]) := hD
  refine lv_dup hx hb dX6_init_477 rfl ?_
  refine lv_bipush (v := 79) hx hb dX6_init_478 (by decide) ?_
  refine lv_bipush (v := 104) hx hb dX6_init_480 (by decide) ?_
  refine va_iast (i := 79) hx hb hK.1 hP hD hS 1 0 rfl rfl (by unfold vp_in; decide) dX6_init_482 (fun H locs hP hD hS => ?_)
  obtain ⟨f482, ef482⟩ : ∃ z, z = upd f476 ((79 : Int32).toNatClampNeg) 104 := ⟨_, rfl⟩
  rw [← ef482] at hP hD
  have tf482 : ∀ j, j < 80 → f482 j = gTabL.getD j 0 := by rw [ef482]; exact g_tab (i := 79) tf476 rfl
  clear ef482 tf476
  have hP : va_P D vwCl ([(h0, .inr (6, [.null, .null, .null, .null, .null, .int 0, .null, .int 0, .int 0, .null, .int 0, .int 0, .int 0, .int 0, .int 0, .int 0, .int 0])), (q7, .inl (cy 0, 85, .inl f482))]) H := hP
  have hD : va_D (gF h0 s.heap.size) ([(h0, .inr (6, [.null, .null, .null, .null, .null, .int 0, .null, .int 0, .int 0, .null, .int 0, .int 0, .int 0, .int 0, .int 0, .int 0, .int 0])), (q7, .inl (cy 0, 85, .inl f482))]) := hD
  refine lv_dup hx hb dX6_init_483 rfl ?_
  refine lv_bipush (v := 80) hx hb dX6_init_484 (by decide) ?_
  refine lv_bipush (v := 101) hx hb dX6_init_486 (by decide) ?_
  refine va_iast (i := 80) hx hb hK.1 hP hD hS 1 0 rfl rfl (by unfold vp_in; decide) dX6_init_488 (fun H locs hP hD hS => ?_)
  obtain ⟨f488, ef488⟩ : ∃ z, z = upd f482 ((80 : Int32).toNatClampNeg) 101 := ⟨_, rfl⟩
  rw [← ef488] at hP hD
  have tf488 : ∀ j, j < 81 → f488 j = gTabL.getD j 0 := by rw [ef488]; exact g_tab (i := 80) tf482 rfl
  clear ef488 tf482
  have hP : va_P D vwCl ([(h0, .inr (6, [.null, .null, .null, .null, .null, .int 0, .null, .int 0, .int 0, .null, .int 0, .int 0, .int 0, .int 0, .int 0, .int 0, .int 0])), (q7, .inl (cy 0, 85, .inl f488))]) H := hP
  have hD : va_D (gF h0 s.heap.size) ([(h0, .inr (6, [.null, .null, .null, .null, .null, .int 0, .null, .int 0, .int 0, .null, .int 0, .int 0, .int 0, .int 0, .int 0, .int 0, .int 0])), (q7, .inl (cy 0, 85, .inl f488))]) := hD
  refine lv_dup hx hb dX6_init_489 rfl ?_
  refine lv_bipush (v := 81) hx hb dX6_init_490 (by decide) ?_
  refine lv_bipush (v := 109) hx hb dX6_init_492 (by decide) ?_
  refine va_iast (i := 81) hx hb hK.1 hP hD hS 1 0 rfl rfl (by unfold vp_in; decide) dX6_init_494 (fun H locs hP hD hS => ?_)
  obtain ⟨f494, ef494⟩ : ∃ z, z = upd f488 ((81 : Int32).toNatClampNeg) 109 := ⟨_, rfl⟩
  rw [← ef494] at hP hD
  have tf494 : ∀ j, j < 82 → f494 j = gTabL.getD j 0 := by rw [ef494]; exact g_tab (i := 81) tf488 rfl
  clear ef494 tf488
  have hP : va_P D vwCl ([(h0, .inr (6, [.null, .null, .null, .null, .null, .int 0, .null, .int 0, .int 0, .null, .int 0, .int 0, .int 0, .int 0, .int 0, .int 0, .int 0])), (q7, .inl (cy 0, 85, .inl f494))]) H := hP
  have hD : va_D (gF h0 s.heap.size) ([(h0, .inr (6, [.null, .null, .null, .null, .null, .int 0, .null, .int 0, .int 0, .null, .int 0, .int 0, .int 0, .int 0, .int 0, .int 0, .int 0])), (q7, .inl (cy 0, 85, .inl f494))]) := hD
  refine lv_dup hx hb dX6_init_495 rfl ?_
  refine lv_bipush (v := 82) hx hb dX6_init_496 (by decide) ?_
  refine lv_bipush (v := 111) hx hb dX6_init_498 (by decide) ?_
  refine va_iast (i := 82) hx hb hK.1 hP hD hS 1 0 rfl rfl (by unfold vp_in; decide) dX6_init_500 (fun H locs hP hD hS => ?_)
  obtain ⟨f500, ef500⟩ : ∃ z, z = upd f494 ((82 : Int32).toNatClampNeg) 111 := ⟨_, rfl⟩
  rw [← ef500] at hP hD
  have tf500 : ∀ j, j < 83 → f500 j = gTabL.getD j 0 := by rw [ef500]; exact g_tab (i := 82) tf494 rfl
  clear ef500 tf494
  have hP : va_P D vwCl ([(h0, .inr (6, [.null, .null, .null, .null, .null, .int 0, .null, .int 0, .int 0, .null, .int 0, .int 0, .int 0, .int 0, .int 0, .int 0, .int 0])), (q7, .inl (cy 0, 85, .inl f500))]) H := hP
  have hD : va_D (gF h0 s.heap.size) ([(h0, .inr (6, [.null, .null, .null, .null, .null, .int 0, .null, .int 0, .int 0, .null, .int 0, .int 0, .int 0, .int 0, .int 0, .int 0, .int 0])), (q7, .inl (cy 0, 85, .inl f500))]) := hD
  refine lv_dup hx hb dX6_init_501 rfl ?_
  refine lv_bipush (v := 83) hx hb dX6_init_502 (by decide) ?_
  refine lv_bipush (v := 110) hx hb dX6_init_504 (by decide) ?_
  refine va_iast (i := 83) hx hb hK.1 hP hD hS 1 0 rfl rfl (by unfold vp_in; decide) dX6_init_506 (fun H locs hP hD hS => ?_)
  obtain ⟨f506, ef506⟩ : ∃ z, z = upd f500 ((83 : Int32).toNatClampNeg) 110 := ⟨_, rfl⟩
  rw [← ef506] at hP hD
  have tf506 : ∀ j, j < 84 → f506 j = gTabL.getD j 0 := by rw [ef506]; exact g_tab (i := 83) tf500 rfl
  clear ef506 tf500
  have hP : va_P D vwCl ([(h0, .inr (6, [.null, .null, .null, .null, .null, .int 0, .null, .int 0, .int 0, .null, .int 0, .int 0, .int 0, .int 0, .int 0, .int 0, .int 0])), (q7, .inl (cy 0, 85, .inl f506))]) H := hP
  have hD : va_D (gF h0 s.heap.size) ([(h0, .inr (6, [.null, .null, .null, .null, .null, .int 0, .null, .int 0, .int 0, .null, .int 0, .int 0, .int 0, .int 0, .int 0, .int 0, .int 0])), (q7, .inl (cy 0, 85, .inl f506))]) := hD
  refine lv_dup hx hb dX6_init_507 rfl ?_
  refine lv_bipush (v := 84) hx hb dX6_init_508 (by decide) ?_
  refine lv_bipush (v := 101) hx hb dX6_init_510 (by decide) ?_
  refine va_iast (i := 84) hx hb hK.1 hP hD hS 1 0 rfl rfl (by unfold vp_in; decide) dX6_init_512 (fun H locs hP hD hS => ?_)
  obtain ⟨f512, ef512⟩ : ∃ z, z = upd f506 ((84 : Int32).toNatClampNeg) 101 := ⟨_, rfl⟩
  rw [← ef512] at hP hD
  have tf512 : ∀ j, j < 85 → f512 j = gTabL.getD j 0 := by rw [ef512]; exact g_tab (i := 84) tf506 rfl
  clear ef512 tf506
  have hP : va_P D vwCl ([(h0, .inr (6, [.null, .null, .null, .null, .null, .int 0, .null, .int 0, .int 0, .null, .int 0, .int 0, .int 0, .int 0, .int 0, .int 0, .int 0])), (q7, .inl (cy 0, 85, .inl f512))]) H := hP
  have hD : va_D (gF h0 s.heap.size) ([(h0, .inr (6, [.null, .null, .null, .null, .null, .int 0, .null, .int 0, .int 0, .null, .int 0, .int 0, .int 0, .int 0, .int 0, .int 0, .int 0])), (q7, .inl (cy 0, 85, .inl f512))]) := hD
  refine va_putF (D := D) (ci := 6) (v := .ref q7) (ty := .array .int) (C := RX6) (T := TX6) (N := 17) hx hb hts hin9 tyX6 tyX6_ok nmX6 hown hK.1 hP hD hS 0 rfl rfl 0 (by decide) (hts (.fieldLink RX6 7 "AdventureParserModel" "letters" "[I") (by decide +kernel)) (fun _ h9 => h9) rfl hin rfl (by decide +kernel) rfl rfl (Nat.le_of_ble_eq_true rfl) dX6_init_513 (fun H locs hP hD hS => ?_)
  have hP : va_P D vwCl ([(h0, .inr (6, [.ref q7, .null, .null, .null, .null, .int 0, .null, .int 0, .int 0, .null, .int 0, .int 0, .int 0, .int 0, .int 0, .int 0, .int 0])), (q7, .inl (cy 0, 85, .inl f512))]) H := hP
  have hD : va_D (gF h0 s.heap.size) ([(h0, .inr (6, [.ref q7, .null, .null, .null, .null, .int 0, .null, .int 0, .int 0, .null, .int 0, .int 0, .int 0, .int 0, .int 0, .int 0, .int 0])), (q7, .inl (cy 0, 85, .inl f512))]) := hD
  refine lv_aload_n hx hb dX6_init_516 rfl (lv_at hl 0 rfl) ?_
  refine lv_bipush (v := 26) hx hb dX6_init_517 (by decide) ?_
  refine va_newa (atype := .int) (ty := .int) (a0 := (26, .inl (fun _ => 0))) (N' := 26) hx hb (hts (.arrayClass .int) (by decide +kernel)) rfl hK.1 hP hD hS hA (fun _ => rfl) (by decide) (by decide) (by decide) (Nat.le_of_ble_eq_true rfl) (Nat.le_of_ble_eq_true rfl) dX6_init_519 (fun q519 cA H hKn hP hD hS => ?_)
  have eA := gcy_i hKn
  subst eA
  have hP : va_P D vwCl ([(h0, .inr (6, [.ref q7, .null, .null, .null, .null, .int 0, .null, .int 0, .int 0, .null, .int 0, .int 0, .int 0, .int 0, .int 0, .int 0, .int 0])), (q7, .inl (cy 0, 85, .inl f512)), (q519, .inl (cy 0, 26, .inl (fun _ => 0)))]) H := hP
  have hD : va_D (gF h0 s.heap.size) ([(h0, .inr (6, [.ref q7, .null, .null, .null, .null, .int 0, .null, .int 0, .int 0, .null, .int 0, .int 0, .int 0, .int 0, .int 0, .int 0, .int 0])), (q7, .inl (cy 0, 85, .inl f512)), (q519, .inl (cy 0, 26, .inl (fun _ => 0)))]) := hD
  refine lv_dup hx hb dX6_init_521 rfl ?_
  refine lv_iconst (v := 0) hx hb dX6_init_522 (by decide) ?_
  refine lv_iconst (v := 0) hx hb dX6_init_523 (by decide) ?_
  refine va_iast (i := 0) hx hb hK.1 hP hD hS 2 0 rfl rfl (by unfold vp_in; decide) dX6_init_524 (fun H locs hP hD hS => ?_)
  obtain ⟨f524, ef524⟩ : ∃ z, z = upd (fun _ => 0) ((0 : Int32).toNatClampNeg) 0 := ⟨_, rfl⟩
  rw [← ef524] at hP hD
  have tf524 : ∀ j, j < 1 → f524 j = gTabB.getD j 0 := by rw [ef524]; exact g_tab (i := 0) lt_0 rfl
  clear ef524
  have hP : va_P D vwCl ([(h0, .inr (6, [.ref q7, .null, .null, .null, .null, .int 0, .null, .int 0, .int 0, .null, .int 0, .int 0, .int 0, .int 0, .int 0, .int 0, .int 0])), (q7, .inl (cy 0, 85, .inl f512)), (q519, .inl (cy 0, 26, .inl f524))]) H := hP
  have hD : va_D (gF h0 s.heap.size) ([(h0, .inr (6, [.ref q7, .null, .null, .null, .null, .int 0, .null, .int 0, .int 0, .null, .int 0, .int 0, .int 0, .int 0, .int 0, .int 0, .int 0])), (q7, .inl (cy 0, 85, .inl f512)), (q519, .inl (cy 0, 26, .inl f524))]) := hD
  refine lv_dup hx hb dX6_init_525 rfl ?_
  refine lv_iconst (v := 1) hx hb dX6_init_526 (by decide) ?_
  refine lv_iconst (v := 4) hx hb dX6_init_527 (by decide) ?_
  refine va_iast (i := 1) hx hb hK.1 hP hD hS 2 0 rfl rfl (by unfold vp_in; decide) dX6_init_528 (fun H locs hP hD hS => ?_)
  obtain ⟨f528, ef528⟩ : ∃ z, z = upd f524 ((1 : Int32).toNatClampNeg) 4 := ⟨_, rfl⟩
  rw [← ef528] at hP hD
  have tf528 : ∀ j, j < 2 → f528 j = gTabB.getD j 0 := by rw [ef528]; exact g_tab (i := 1) tf524 rfl
  clear ef528 tf524
  have hP : va_P D vwCl ([(h0, .inr (6, [.ref q7, .null, .null, .null, .null, .int 0, .null, .int 0, .int 0, .null, .int 0, .int 0, .int 0, .int 0, .int 0, .int 0, .int 0])), (q7, .inl (cy 0, 85, .inl f512)), (q519, .inl (cy 0, 26, .inl f528))]) H := hP
  have hD : va_D (gF h0 s.heap.size) ([(h0, .inr (6, [.ref q7, .null, .null, .null, .null, .int 0, .null, .int 0, .int 0, .null, .int 0, .int 0, .int 0, .int 0, .int 0, .int 0, .int 0])), (q7, .inl (cy 0, 85, .inl f512)), (q519, .inl (cy 0, 26, .inl f528))]) := hD
  refine lv_dup hx hb dX6_init_529 rfl ?_
  refine lv_iconst (v := 2) hx hb dX6_init_530 (by decide) ?_
  refine lv_bipush (v := 7) hx hb dX6_init_531 (by decide) ?_
  refine va_iast (i := 2) hx hb hK.1 hP hD hS 2 0 rfl rfl (by unfold vp_in; decide) dX6_init_533 (fun H locs hP hD hS => ?_)
  obtain ⟨f533, ef533⟩ : ∃ z, z = upd f528 ((2 : Int32).toNatClampNeg) 7 := ⟨_, rfl⟩
  rw [← ef533] at hP hD
  have tf533 : ∀ j, j < 3 → f533 j = gTabB.getD j 0 := by rw [ef533]; exact g_tab (i := 2) tf528 rfl
  clear ef533 tf528
  have hP : va_P D vwCl ([(h0, .inr (6, [.ref q7, .null, .null, .null, .null, .int 0, .null, .int 0, .int 0, .null, .int 0, .int 0, .int 0, .int 0, .int 0, .int 0, .int 0])), (q7, .inl (cy 0, 85, .inl f512)), (q519, .inl (cy 0, 26, .inl f533))]) H := hP
  have hD : va_D (gF h0 s.heap.size) ([(h0, .inr (6, [.ref q7, .null, .null, .null, .null, .int 0, .null, .int 0, .int 0, .null, .int 0, .int 0, .int 0, .int 0, .int 0, .int 0, .int 0])), (q7, .inl (cy 0, 85, .inl f512)), (q519, .inl (cy 0, 26, .inl f533))]) := hD
  refine lv_dup hx hb dX6_init_534 rfl ?_
  refine lv_iconst (v := 3) hx hb dX6_init_535 (by decide) ?_
  refine lv_bipush (v := 10) hx hb dX6_init_536 (by decide) ?_
  refine va_iast (i := 3) hx hb hK.1 hP hD hS 2 0 rfl rfl (by unfold vp_in; decide) dX6_init_538 (fun H locs hP hD hS => ?_)
  obtain ⟨f538, ef538⟩ : ∃ z, z = upd f533 ((3 : Int32).toNatClampNeg) 10 := ⟨_, rfl⟩
  rw [← ef538] at hP hD
  have tf538 : ∀ j, j < 4 → f538 j = gTabB.getD j 0 := by rw [ef538]; exact g_tab (i := 3) tf533 rfl
  clear ef538 tf533
  have hP : va_P D vwCl ([(h0, .inr (6, [.ref q7, .null, .null, .null, .null, .int 0, .null, .int 0, .int 0, .null, .int 0, .int 0, .int 0, .int 0, .int 0, .int 0, .int 0])), (q7, .inl (cy 0, 85, .inl f512)), (q519, .inl (cy 0, 26, .inl f538))]) H := hP
  have hD : va_D (gF h0 s.heap.size) ([(h0, .inr (6, [.ref q7, .null, .null, .null, .null, .int 0, .null, .int 0, .int 0, .null, .int 0, .int 0, .int 0, .int 0, .int 0, .int 0, .int 0])), (q7, .inl (cy 0, 85, .inl f512)), (q519, .inl (cy 0, 26, .inl f538))]) := hD
  refine lv_dup hx hb dX6_init_539 rfl ?_
  refine lv_iconst (v := 4) hx hb dX6_init_540 (by decide) ?_
  refine lv_bipush (v := 14) hx hb dX6_init_541 (by decide) ?_
  refine va_iast (i := 4) hx hb hK.1 hP hD hS 2 0 rfl rfl (by unfold vp_in; decide) dX6_init_543 (fun H locs hP hD hS => ?_)
  obtain ⟨f543, ef543⟩ : ∃ z, z = upd f538 ((4 : Int32).toNatClampNeg) 14 := ⟨_, rfl⟩
  rw [← ef543] at hP hD
  have tf543 : ∀ j, j < 5 → f543 j = gTabB.getD j 0 := by rw [ef543]; exact g_tab (i := 4) tf538 rfl
  clear ef543 tf538
  have hP : va_P D vwCl ([(h0, .inr (6, [.ref q7, .null, .null, .null, .null, .int 0, .null, .int 0, .int 0, .null, .int 0, .int 0, .int 0, .int 0, .int 0, .int 0, .int 0])), (q7, .inl (cy 0, 85, .inl f512)), (q519, .inl (cy 0, 26, .inl f543))]) H := hP
  have hD : va_D (gF h0 s.heap.size) ([(h0, .inr (6, [.ref q7, .null, .null, .null, .null, .int 0, .null, .int 0, .int 0, .null, .int 0, .int 0, .int 0, .int 0, .int 0, .int 0, .int 0])), (q7, .inl (cy 0, 85, .inl f512)), (q519, .inl (cy 0, 26, .inl f543))]) := hD
  refine lv_dup hx hb dX6_init_544 rfl ?_
  refine lv_iconst (v := 5) hx hb dX6_init_545 (by decide) ?_
  refine lv_bipush (v := 18) hx hb dX6_init_546 (by decide) ?_
  refine va_iast (i := 5) hx hb hK.1 hP hD hS 2 0 rfl rfl (by unfold vp_in; decide) dX6_init_548 (fun H locs hP hD hS => ?_)
  obtain ⟨f548, ef548⟩ : ∃ z, z = upd f543 ((5 : Int32).toNatClampNeg) 18 := ⟨_, rfl⟩
  rw [← ef548] at hP hD
  have tf548 : ∀ j, j < 6 → f548 j = gTabB.getD j 0 := by rw [ef548]; exact g_tab (i := 5) tf543 rfl
  clear ef548 tf543
  have hP : va_P D vwCl ([(h0, .inr (6, [.ref q7, .null, .null, .null, .null, .int 0, .null, .int 0, .int 0, .null, .int 0, .int 0, .int 0, .int 0, .int 0, .int 0, .int 0])), (q7, .inl (cy 0, 85, .inl f512)), (q519, .inl (cy 0, 26, .inl f548))]) H := hP
  have hD : va_D (gF h0 s.heap.size) ([(h0, .inr (6, [.ref q7, .null, .null, .null, .null, .int 0, .null, .int 0, .int 0, .null, .int 0, .int 0, .int 0, .int 0, .int 0, .int 0, .int 0])), (q7, .inl (cy 0, 85, .inl f512)), (q519, .inl (cy 0, 26, .inl f548))]) := hD
  refine lv_dup hx hb dX6_init_549 rfl ?_
  refine lv_bipush (v := 6) hx hb dX6_init_550 (by decide) ?_
  refine lv_bipush (v := 21) hx hb dX6_init_552 (by decide) ?_
  refine va_iast (i := 6) hx hb hK.1 hP hD hS 2 0 rfl rfl (by unfold vp_in; decide) dX6_init_554 (fun H locs hP hD hS => ?_)
  obtain ⟨f554, ef554⟩ : ∃ z, z = upd f548 ((6 : Int32).toNatClampNeg) 21 := ⟨_, rfl⟩
  rw [← ef554] at hP hD
  have tf554 : ∀ j, j < 7 → f554 j = gTabB.getD j 0 := by rw [ef554]; exact g_tab (i := 6) tf548 rfl
  clear ef554 tf548
  have hP : va_P D vwCl ([(h0, .inr (6, [.ref q7, .null, .null, .null, .null, .int 0, .null, .int 0, .int 0, .null, .int 0, .int 0, .int 0, .int 0, .int 0, .int 0, .int 0])), (q7, .inl (cy 0, 85, .inl f512)), (q519, .inl (cy 0, 26, .inl f554))]) H := hP
  have hD : va_D (gF h0 s.heap.size) ([(h0, .inr (6, [.ref q7, .null, .null, .null, .null, .int 0, .null, .int 0, .int 0, .null, .int 0, .int 0, .int 0, .int 0, .int 0, .int 0, .int 0])), (q7, .inl (cy 0, 85, .inl f512)), (q519, .inl (cy 0, 26, .inl f554))]) := hD
  refine lv_dup hx hb dX6_init_555 rfl ?_
  refine lv_bipush (v := 7) hx hb dX6_init_556 (by decide) ?_
  refine lv_bipush (v := 24) hx hb dX6_init_558 (by decide) ?_
  refine va_iast (i := 7) hx hb hK.1 hP hD hS 2 0 rfl rfl (by unfold vp_in; decide) dX6_init_560 (fun H locs hP hD hS => ?_)
  obtain ⟨f560, ef560⟩ : ∃ z, z = upd f554 ((7 : Int32).toNatClampNeg) 24 := ⟨_, rfl⟩
  rw [← ef560] at hP hD
  have tf560 : ∀ j, j < 8 → f560 j = gTabB.getD j 0 := by rw [ef560]; exact g_tab (i := 7) tf554 rfl
  clear ef560 tf554
  have hP : va_P D vwCl ([(h0, .inr (6, [.ref q7, .null, .null, .null, .null, .int 0, .null, .int 0, .int 0, .null, .int 0, .int 0, .int 0, .int 0, .int 0, .int 0, .int 0])), (q7, .inl (cy 0, 85, .inl f512)), (q519, .inl (cy 0, 26, .inl f560))]) H := hP
  have hD : va_D (gF h0 s.heap.size) ([(h0, .inr (6, [.ref q7, .null, .null, .null, .null, .int 0, .null, .int 0, .int 0, .null, .int 0, .int 0, .int 0, .int 0, .int 0, .int 0, .int 0])), (q7, .inl (cy 0, 85, .inl f512)), (q519, .inl (cy 0, 26, .inl f560))]) := hD
  refine lv_dup hx hb dX6_init_561 rfl ?_
  refine lv_bipush (v := 8) hx hb dX6_init_562 (by decide) ?_
  refine lv_bipush (v := 28) hx hb dX6_init_564 (by decide) ?_
  refine va_iast (i := 8) hx hb hK.1 hP hD hS 2 0 rfl rfl (by unfold vp_in; decide) dX6_init_566 (fun H locs hP hD hS => ?_)
  obtain ⟨f566, ef566⟩ : ∃ z, z = upd f560 ((8 : Int32).toNatClampNeg) 28 := ⟨_, rfl⟩
  rw [← ef566] at hP hD
  have tf566 : ∀ j, j < 9 → f566 j = gTabB.getD j 0 := by rw [ef566]; exact g_tab (i := 8) tf560 rfl
  clear ef566 tf560
  have hP : va_P D vwCl ([(h0, .inr (6, [.ref q7, .null, .null, .null, .null, .int 0, .null, .int 0, .int 0, .null, .int 0, .int 0, .int 0, .int 0, .int 0, .int 0, .int 0])), (q7, .inl (cy 0, 85, .inl f512)), (q519, .inl (cy 0, 26, .inl f566))]) H := hP
  have hD : va_D (gF h0 s.heap.size) ([(h0, .inr (6, [.ref q7, .null, .null, .null, .null, .int 0, .null, .int 0, .int 0, .null, .int 0, .int 0, .int 0, .int 0, .int 0, .int 0, .int 0])), (q7, .inl (cy 0, 85, .inl f512)), (q519, .inl (cy 0, 26, .inl f566))]) := hD
  refine lv_dup hx hb dX6_init_567 rfl ?_
  refine lv_bipush (v := 9) hx hb dX6_init_568 (by decide) ?_
  refine lv_bipush (v := 31) hx hb dX6_init_570 (by decide) ?_
  refine va_iast (i := 9) hx hb hK.1 hP hD hS 2 0 rfl rfl (by unfold vp_in; decide) dX6_init_572 (fun H locs hP hD hS => ?_)
  obtain ⟨f572, ef572⟩ : ∃ z, z = upd f566 ((9 : Int32).toNatClampNeg) 31 := ⟨_, rfl⟩
  rw [← ef572] at hP hD
  have tf572 : ∀ j, j < 10 → f572 j = gTabB.getD j 0 := by rw [ef572]; exact g_tab (i := 9) tf566 rfl
  clear ef572 tf566
  have hP : va_P D vwCl ([(h0, .inr (6, [.ref q7, .null, .null, .null, .null, .int 0, .null, .int 0, .int 0, .null, .int 0, .int 0, .int 0, .int 0, .int 0, .int 0, .int 0])), (q7, .inl (cy 0, 85, .inl f512)), (q519, .inl (cy 0, 26, .inl f572))]) H := hP
  have hD : va_D (gF h0 s.heap.size) ([(h0, .inr (6, [.ref q7, .null, .null, .null, .null, .int 0, .null, .int 0, .int 0, .null, .int 0, .int 0, .int 0, .int 0, .int 0, .int 0, .int 0])), (q7, .inl (cy 0, 85, .inl f512)), (q519, .inl (cy 0, 26, .inl f572))]) := hD
  refine lv_dup hx hb dX6_init_573 rfl ?_
  refine lv_bipush (v := 10) hx hb dX6_init_574 (by decide) ?_
  refine lv_bipush (v := 34) hx hb dX6_init_576 (by decide) ?_
  refine va_iast (i := 10) hx hb hK.1 hP hD hS 2 0 rfl rfl (by unfold vp_in; decide) dX6_init_578 (fun H locs hP hD hS => ?_)
  obtain ⟨f578, ef578⟩ : ∃ z, z = upd f572 ((10 : Int32).toNatClampNeg) 34 := ⟨_, rfl⟩
  rw [← ef578] at hP hD
  have tf578 : ∀ j, j < 11 → f578 j = gTabB.getD j 0 := by rw [ef578]; exact g_tab (i := 10) tf572 rfl
  clear ef578 tf572
  have hP : va_P D vwCl ([(h0, .inr (6, [.ref q7, .null, .null, .null, .null, .int 0, .null, .int 0, .int 0, .null, .int 0, .int 0, .int 0, .int 0, .int 0, .int 0, .int 0])), (q7, .inl (cy 0, 85, .inl f512)), (q519, .inl (cy 0, 26, .inl f578))]) H := hP
  have hD : va_D (gF h0 s.heap.size) ([(h0, .inr (6, [.ref q7, .null, .null, .null, .null, .int 0, .null, .int 0, .int 0, .null, .int 0, .int 0, .int 0, .int 0, .int 0, .int 0, .int 0])), (q7, .inl (cy 0, 85, .inl f512)), (q519, .inl (cy 0, 26, .inl f578))]) := hD
  refine lv_dup hx hb dX6_init_579 rfl ?_
  refine lv_bipush (v := 11) hx hb dX6_init_580 (by decide) ?_
  refine lv_bipush (v := 38) hx hb dX6_init_582 (by decide) ?_
  refine va_iast (i := 11) hx hb hK.1 hP hD hS 2 0 rfl rfl (by unfold vp_in; decide) dX6_init_584 (fun H locs hP hD hS => ?_)
  obtain ⟨f584, ef584⟩ : ∃ z, z = upd f578 ((11 : Int32).toNatClampNeg) 38 := ⟨_, rfl⟩
  rw [← ef584] at hP hD
  have tf584 : ∀ j, j < 12 → f584 j = gTabB.getD j 0 := by rw [ef584]; exact g_tab (i := 11) tf578 rfl
  clear ef584 tf578
  have hP : va_P D vwCl ([(h0, .inr (6, [.ref q7, .null, .null, .null, .null, .int 0, .null, .int 0, .int 0, .null, .int 0, .int 0, .int 0, .int 0, .int 0, .int 0, .int 0])), (q7, .inl (cy 0, 85, .inl f512)), (q519, .inl (cy 0, 26, .inl f584))]) H := hP
  have hD : va_D (gF h0 s.heap.size) ([(h0, .inr (6, [.ref q7, .null, .null, .null, .null, .int 0, .null, .int 0, .int 0, .null, .int 0, .int 0, .int 0, .int 0, .int 0, .int 0, .int 0])), (q7, .inl (cy 0, 85, .inl f512)), (q519, .inl (cy 0, 26, .inl f584))]) := hD
  refine lv_dup hx hb dX6_init_585 rfl ?_
  refine lv_bipush (v := 12) hx hb dX6_init_586 (by decide) ?_
  refine lv_bipush (v := 42) hx hb dX6_init_588 (by decide) ?_
  refine va_iast (i := 12) hx hb hK.1 hP hD hS 2 0 rfl rfl (by unfold vp_in; decide) dX6_init_590 (fun H locs hP hD hS => ?_)
  obtain ⟨f590, ef590⟩ : ∃ z, z = upd f584 ((12 : Int32).toNatClampNeg) 42 := ⟨_, rfl⟩
  rw [← ef590] at hP hD
  have tf590 : ∀ j, j < 13 → f590 j = gTabB.getD j 0 := by rw [ef590]; exact g_tab (i := 12) tf584 rfl
  clear ef590 tf584
  have hP : va_P D vwCl ([(h0, .inr (6, [.ref q7, .null, .null, .null, .null, .int 0, .null, .int 0, .int 0, .null, .int 0, .int 0, .int 0, .int 0, .int 0, .int 0, .int 0])), (q7, .inl (cy 0, 85, .inl f512)), (q519, .inl (cy 0, 26, .inl f590))]) H := hP
  have hD : va_D (gF h0 s.heap.size) ([(h0, .inr (6, [.ref q7, .null, .null, .null, .null, .int 0, .null, .int 0, .int 0, .null, .int 0, .int 0, .int 0, .int 0, .int 0, .int 0, .int 0])), (q7, .inl (cy 0, 85, .inl f512)), (q519, .inl (cy 0, 26, .inl f590))]) := hD
  refine lv_dup hx hb dX6_init_591 rfl ?_
  refine lv_bipush (v := 13) hx hb dX6_init_592 (by decide) ?_
  refine lv_bipush (v := 45) hx hb dX6_init_594 (by decide) ?_
  refine va_iast (i := 13) hx hb hK.1 hP hD hS 2 0 rfl rfl (by unfold vp_in; decide) dX6_init_596 (fun H locs hP hD hS => ?_)
  obtain ⟨f596, ef596⟩ : ∃ z, z = upd f590 ((13 : Int32).toNatClampNeg) 45 := ⟨_, rfl⟩
  rw [← ef596] at hP hD
  have tf596 : ∀ j, j < 14 → f596 j = gTabB.getD j 0 := by rw [ef596]; exact g_tab (i := 13) tf590 rfl
  clear ef596 tf590
  have hP : va_P D vwCl ([(h0, .inr (6, [.ref q7, .null, .null, .null, .null, .int 0, .null, .int 0, .int 0, .null, .int 0, .int 0, .int 0, .int 0, .int 0, .int 0, .int 0])), (q7, .inl (cy 0, 85, .inl f512)), (q519, .inl (cy 0, 26, .inl f596))]) H := hP
  have hD : va_D (gF h0 s.heap.size) ([(h0, .inr (6, [.ref q7, .null, .null, .null, .null, .int 0, .null, .int 0, .int 0, .null, .int 0, .int 0, .int 0, .int 0, .int 0, .int 0, .int 0])), (q7, .inl (cy 0, 85, .inl f512)), (q519, .inl (cy 0, 26, .inl f596))]) := hD
  refine lv_dup hx hb dX6_init_597 rfl ?_
  refine lv_bipush (v := 14) hx hb dX6_init_598 (by decide) ?_
  refine lv_bipush (v := 49) hx hb dX6_init_600 (by decide) ?_
  refine va_iast (i := 14) hx hb hK.1 hP hD hS 2 0 rfl rfl (by unfold vp_in; decide) dX6_init_602 (fun H locs hP hD hS => ?_)
  obtain ⟨f602, ef602⟩ : ∃ z, z = upd f596 ((14 : Int32).toNatClampNeg) 49 := ⟨_, rfl⟩
  rw [← ef602] at hP hD
  have tf602 : ∀ j, j < 15 → f602 j = gTabB.getD j 0 := by rw [ef602]; exact g_tab (i := 14) tf596 rfl
  clear ef602 tf596
  have hP : va_P D vwCl ([(h0, .inr (6, [.ref q7, .null, .null, .null, .null, .int 0, .null, .int 0, .int 0, .null, .int 0, .int 0, .int 0, .int 0, .int 0, .int 0, .int 0])), (q7, .inl (cy 0, 85, .inl f512)), (q519, .inl (cy 0, 26, .inl f602))]) H := hP
  have hD : va_D (gF h0 s.heap.size) ([(h0, .inr (6, [.ref q7, .null, .null, .null, .null, .int 0, .null, .int 0, .int 0, .null, .int 0, .int 0, .int 0, .int 0, .int 0, .int 0, .int 0])), (q7, .inl (cy 0, 85, .inl f512)), (q519, .inl (cy 0, 26, .inl f602))]) := hD
  refine lv_dup hx hb dX6_init_603 rfl ?_
  refine lv_bipush (v := 15) hx hb dX6_init_604 (by decide) ?_
  refine lv_bipush (v := 54) hx hb dX6_init_606 (by decide) ?_
  refine va_iast (i := 15) hx hb hK.1 hP hD hS 2 0 rfl rfl (by unfold vp_in; decide) dX6_init_608 (fun H locs hP hD hS => ?_)
  obtain ⟨f608, ef608⟩ : ∃ z, z = upd f602 ((15 : Int32).toNatClampNeg) 54 := ⟨_, rfl⟩
  rw [← ef608] at hP hD
  have tf608 : ∀ j, j < 16 → f608 j = gTabB.getD j 0 := by rw [ef608]; exact g_tab (i := 15) tf602 rfl
  clear ef608 tf602
  have hP : va_P D vwCl ([(h0, .inr (6, [.ref q7, .null, .null, .null, .null, .int 0, .null, .int 0, .int 0, .null, .int 0, .int 0, .int 0, .int 0, .int 0, .int 0, .int 0])), (q7, .inl (cy 0, 85, .inl f512)), (q519, .inl (cy 0, 26, .inl f608))]) H := hP
  have hD : va_D (gF h0 s.heap.size) ([(h0, .inr (6, [.ref q7, .null, .null, .null, .null, .int 0, .null, .int 0, .int 0, .null, .int 0, .int 0, .int 0, .int 0, .int 0, .int 0, .int 0])), (q7, .inl (cy 0, 85, .inl f512)), (q519, .inl (cy 0, 26, .inl f608))]) := hD
  refine lv_dup hx hb dX6_init_609 rfl ?_
  refine lv_bipush (v := 16) hx hb dX6_init_610 (by decide) ?_
  refine lv_bipush (v := 58) hx hb dX6_init_612 (by decide) ?_
  refine va_iast (i := 16) hx hb hK.1 hP hD hS 2 0 rfl rfl (by unfold vp_in; decide) dX6_init_614 (fun H locs hP hD hS => ?_)
  obtain ⟨f614, ef614⟩ : ∃ z, z = upd f608 ((16 : Int32).toNatClampNeg) 58 := ⟨_, rfl⟩
  rw [← ef614] at hP hD
  have tf614 : ∀ j, j < 17 → f614 j = gTabB.getD j 0 := by rw [ef614]; exact g_tab (i := 16) tf608 rfl
  clear ef614 tf608
  have hP : va_P D vwCl ([(h0, .inr (6, [.ref q7, .null, .null, .null, .null, .int 0, .null, .int 0, .int 0, .null, .int 0, .int 0, .int 0, .int 0, .int 0, .int 0, .int 0])), (q7, .inl (cy 0, 85, .inl f512)), (q519, .inl (cy 0, 26, .inl f614))]) H := hP
  have hD : va_D (gF h0 s.heap.size) ([(h0, .inr (6, [.ref q7, .null, .null, .null, .null, .int 0, .null, .int 0, .int 0, .null, .int 0, .int 0, .int 0, .int 0, .int 0, .int 0, .int 0])), (q7, .inl (cy 0, 85, .inl f512)), (q519, .inl (cy 0, 26, .inl f614))]) := hD
  refine lv_dup hx hb dX6_init_615 rfl ?_
  refine lv_bipush (v := 17) hx hb dX6_init_616 (by decide) ?_
  refine lv_bipush (v := 62) hx hb dX6_init_618 (by decide) ?_
  refine va_iast (i := 17) hx hb hK.1 hP hD hS 2 0 rfl rfl (by unfold vp_in; decide) dX6_init_620 (fun H locs hP hD hS => ?_)
  obtain ⟨f620, ef620⟩ : ∃ z, z = upd f614 ((17 : Int32).toNatClampNeg) 62 := ⟨_, rfl⟩
  rw [← ef620] at hP hD
  have tf620 : ∀ j, j < 18 → f620 j = gTabB.getD j 0 := by rw [ef620]; exact g_tab (i := 17) tf614 rfl
  clear ef620 tf614
  have hP : va_P D vwCl ([(h0, .inr (6, [.ref q7, .null, .null, .null, .null, .int 0, .null, .int 0, .int 0, .null, .int 0, .int 0, .int 0, .int 0, .int 0, .int 0, .int 0])), (q7, .inl (cy 0, 85, .inl f512)), (q519, .inl (cy 0, 26, .inl f620))]) H := hP
  have hD : va_D (gF h0 s.heap.size) ([(h0, .inr (6, [.ref q7, .null, .null, .null, .null, .int 0, .null, .int 0, .int 0, .null, .int 0, .int 0, .int 0, .int 0, .int 0, .int 0, .int 0])), (q7, .inl (cy 0, 85, .inl f512)), (q519, .inl (cy 0, 26, .inl f620))]) := hD
  refine lv_dup hx hb dX6_init_621 rfl ?_
  refine lv_bipush (v := 18) hx hb dX6_init_622 (by decide) ?_
  refine lv_bipush (v := 65) hx hb dX6_init_624 (by decide) ?_
  refine va_iast (i := 18) hx hb hK.1 hP hD hS 2 0 rfl rfl (by unfold vp_in; decide) dX6_init_626 (fun H locs hP hD hS => ?_)
  obtain ⟨f626, ef626⟩ : ∃ z, z = upd f620 ((18 : Int32).toNatClampNeg) 65 := ⟨_, rfl⟩
  rw [← ef626] at hP hD
  have tf626 : ∀ j, j < 19 → f626 j = gTabB.getD j 0 := by rw [ef626]; exact g_tab (i := 18) tf620 rfl
  clear ef626 tf620
  have hP : va_P D vwCl ([(h0, .inr (6, [.ref q7, .null, .null, .null, .null, .int 0, .null, .int 0, .int 0, .null, .int 0, .int 0, .int 0, .int 0, .int 0, .int 0, .int 0])), (q7, .inl (cy 0, 85, .inl f512)), (q519, .inl (cy 0, 26, .inl f626))]) H := hP
  have hD : va_D (gF h0 s.heap.size) ([(h0, .inr (6, [.ref q7, .null, .null, .null, .null, .int 0, .null, .int 0, .int 0, .null, .int 0, .int 0, .int 0, .int 0, .int 0, .int 0, .int 0])), (q7, .inl (cy 0, 85, .inl f512)), (q519, .inl (cy 0, 26, .inl f626))]) := hD
  refine lv_dup hx hb dX6_init_627 rfl ?_
  refine lv_bipush (v := 19) hx hb dX6_init_628 (by decide) ?_
  refine lv_bipush (v := 68) hx hb dX6_init_630 (by decide) ?_
  refine va_iast (i := 19) hx hb hK.1 hP hD hS 2 0 rfl rfl (by unfold vp_in; decide) dX6_init_632 (fun H locs hP hD hS => ?_)
  obtain ⟨f632, ef632⟩ : ∃ z, z = upd f626 ((19 : Int32).toNatClampNeg) 68 := ⟨_, rfl⟩
  rw [← ef632] at hP hD
  have tf632 : ∀ j, j < 20 → f632 j = gTabB.getD j 0 := by rw [ef632]; exact g_tab (i := 19) tf626 rfl
  clear ef632 tf626
  have hP : va_P D vwCl ([(h0, .inr (6, [.ref q7, .null, .null, .null, .null, .int 0, .null, .int 0, .int 0, .null, .int 0, .int 0, .int 0, .int 0, .int 0, .int 0, .int 0])), (q7, .inl (cy 0, 85, .inl f512)), (q519, .inl (cy 0, 26, .inl f632))]) H := hP
  have hD : va_D (gF h0 s.heap.size) ([(h0, .inr (6, [.ref q7, .null, .null, .null, .null, .int 0, .null, .int 0, .int 0, .null, .int 0, .int 0, .int 0, .int 0, .int 0, .int 0, .int 0])), (q7, .inl (cy 0, 85, .inl f512)), (q519, .inl (cy 0, 26, .inl f632))]) := hD
  refine lv_dup hx hb dX6_init_633 rfl ?_
  refine lv_bipush (v := 20) hx hb dX6_init_634 (by decide) ?_
  refine lv_bipush (v := 71) hx hb dX6_init_636 (by decide) ?_
  refine va_iast (i := 20) hx hb hK.1 hP hD hS 2 0 rfl rfl (by unfold vp_in; decide) dX6_init_638 (fun H locs hP hD hS => ?_)
  obtain ⟨f638, ef638⟩ : ∃ z, z = upd f632 ((20 : Int32).toNatClampNeg) 71 := ⟨_, rfl⟩
  rw [← ef638] at hP hD
  have tf638 : ∀ j, j < 21 → f638 j = gTabB.getD j 0 := by rw [ef638]; exact g_tab (i := 20) tf632 rfl
  clear ef638 tf632
  have hP : va_P D vwCl ([(h0, .inr (6, [.ref q7, .null, .null, .null, .null, .int 0, .null, .int 0, .int 0, .null, .int 0, .int 0, .int 0, .int 0, .int 0, .int 0, .int 0])), (q7, .inl (cy 0, 85, .inl f512)), (q519, .inl (cy 0, 26, .inl f638))]) H := hP
  have hD : va_D (gF h0 s.heap.size) ([(h0, .inr (6, [.ref q7, .null, .null, .null, .null, .int 0, .null, .int 0, .int 0, .null, .int 0, .int 0, .int 0, .int 0, .int 0, .int 0, .int 0])), (q7, .inl (cy 0, 85, .inl f512)), (q519, .inl (cy 0, 26, .inl f638))]) := hD
  refine lv_dup hx hb dX6_init_639 rfl ?_
  refine lv_bipush (v := 21) hx hb dX6_init_640 (by decide) ?_
  refine lv_bipush (v := 73) hx hb dX6_init_642 (by decide) ?_
  refine va_iast (i := 21) hx hb hK.1 hP hD hS 2 0 rfl rfl (by unfold vp_in; decide) dX6_init_644 (fun H locs hP hD hS => ?_)
  obtain ⟨f644, ef644⟩ : ∃ z, z = upd f638 ((21 : Int32).toNatClampNeg) 73 := ⟨_, rfl⟩
  rw [← ef644] at hP hD
  have tf644 : ∀ j, j < 22 → f644 j = gTabB.getD j 0 := by rw [ef644]; exact g_tab (i := 21) tf638 rfl
  clear ef644 tf638
  have hP : va_P D vwCl ([(h0, .inr (6, [.ref q7, .null, .null, .null, .null, .int 0, .null, .int 0, .int 0, .null, .int 0, .int 0, .int 0, .int 0, .int 0, .int 0, .int 0])), (q7, .inl (cy 0, 85, .inl f512)), (q519, .inl (cy 0, 26, .inl f644))]) H := hP
  have hD : va_D (gF h0 s.heap.size) ([(h0, .inr (6, [.ref q7, .null, .null, .null, .null, .int 0, .null, .int 0, .int 0, .null, .int 0, .int 0, .int 0, .int 0, .int 0, .int 0, .int 0])), (q7, .inl (cy 0, 85, .inl f512)), (q519, .inl (cy 0, 26, .inl f644))]) := hD
  refine lv_dup hx hb dX6_init_645 rfl ?_
  refine lv_bipush (v := 22) hx hb dX6_init_646 (by decide) ?_
  refine lv_bipush (v := 76) hx hb dX6_init_648 (by decide) ?_
  refine va_iast (i := 22) hx hb hK.1 hP hD hS 2 0 rfl rfl (by unfold vp_in; decide) dX6_init_650 (fun H locs hP hD hS => ?_)
  obtain ⟨f650, ef650⟩ : ∃ z, z = upd f644 ((22 : Int32).toNatClampNeg) 76 := ⟨_, rfl⟩
  rw [← ef650] at hP hD
  have tf650 : ∀ j, j < 23 → f650 j = gTabB.getD j 0 := by rw [ef650]; exact g_tab (i := 22) tf644 rfl
  clear ef650 tf644
  have hP : va_P D vwCl ([(h0, .inr (6, [.ref q7, .null, .null, .null, .null, .int 0, .null, .int 0, .int 0, .null, .int 0, .int 0, .int 0, .int 0, .int 0, .int 0, .int 0])), (q7, .inl (cy 0, 85, .inl f512)), (q519, .inl (cy 0, 26, .inl f650))]) H := hP
  have hD : va_D (gF h0 s.heap.size) ([(h0, .inr (6, [.ref q7, .null, .null, .null, .null, .int 0, .null, .int 0, .int 0, .null, .int 0, .int 0, .int 0, .int 0, .int 0, .int 0, .int 0])), (q7, .inl (cy 0, 85, .inl f512)), (q519, .inl (cy 0, 26, .inl f650))]) := hD
  refine lv_dup hx hb dX6_init_651 rfl ?_
  refine lv_bipush (v := 23) hx hb dX6_init_652 (by decide) ?_
  refine lv_bipush (v := 78) hx hb dX6_init_654 (by decide) ?_
  refine va_iast (i := 23) hx hb hK.1 hP hD hS 2 0 rfl rfl (by unfold vp_in; decide) dX6_init_656 (fun H locs hP hD hS => ?_)
  obtain ⟨f656, ef656⟩ : ∃ z, z = upd f650 ((23 : Int32).toNatClampNeg) 78 := ⟨_, rfl⟩
  rw [← ef656] at hP hD
  have tf656 : ∀ j, j < 24 → f656 j = gTabB.getD j 0 := by rw [ef656]; exact g_tab (i := 23) tf650 rfl
  clear ef656 tf650
  have hP : va_P D vwCl ([(h0, .inr (6, [.ref q7, .null, .null, .null, .null, .int 0, .null, .int 0, .int 0, .null, .int 0, .int 0, .int 0, .int 0, .int 0, .int 0, .int 0])), (q7, .inl (cy 0, 85, .inl f512)), (q519, .inl (cy 0, 26, .inl f656))]) H := hP
  have hD : va_D (gF h0 s.heap.size) ([(h0, .inr (6, [.ref q7, .null, .null, .null, .null, .int 0, .null, .int 0, .int 0, .null, .int 0, .int 0, .int 0, .int 0, .int 0, .int 0, .int 0])), (q7, .inl (cy 0, 85, .inl f512)), (q519, .inl (cy 0, 26, .inl f656))]) := hD
  refine lv_dup hx hb dX6_init_657 rfl ?_
  refine lv_bipush (v := 24) hx hb dX6_init_658 (by decide) ?_
  refine lv_bipush (v := 82) hx hb dX6_init_660 (by decide) ?_
  refine va_iast (i := 24) hx hb hK.1 hP hD hS 2 0 rfl rfl (by unfold vp_in; decide) dX6_init_662 (fun H locs hP hD hS => ?_)
  obtain ⟨f662, ef662⟩ : ∃ z, z = upd f656 ((24 : Int32).toNatClampNeg) 82 := ⟨_, rfl⟩
  rw [← ef662] at hP hD
  have tf662 : ∀ j, j < 25 → f662 j = gTabB.getD j 0 := by rw [ef662]; exact g_tab (i := 24) tf656 rfl
  clear ef662 tf656
  have hP : va_P D vwCl ([(h0, .inr (6, [.ref q7, .null, .null, .null, .null, .int 0, .null, .int 0, .int 0, .null, .int 0, .int 0, .int 0, .int 0, .int 0, .int 0, .int 0])), (q7, .inl (cy 0, 85, .inl f512)), (q519, .inl (cy 0, 26, .inl f662))]) H := hP
  have hD : va_D (gF h0 s.heap.size) ([(h0, .inr (6, [.ref q7, .null, .null, .null, .null, .int 0, .null, .int 0, .int 0, .null, .int 0, .int 0, .int 0, .int 0, .int 0, .int 0, .int 0])), (q7, .inl (cy 0, 85, .inl f512)), (q519, .inl (cy 0, 26, .inl f662))]) := hD
  refine lv_dup hx hb dX6_init_663 rfl ?_
  refine lv_bipush (v := 25) hx hb dX6_init_664 (by decide) ?_
  refine lv_bipush (v := 85) hx hb dX6_init_666 (by decide) ?_
  refine va_iast (i := 25) hx hb hK.1 hP hD hS 2 0 rfl rfl (by unfold vp_in; decide) dX6_init_668 (fun H locs hP hD hS => ?_)
  obtain ⟨f668, ef668⟩ : ∃ z, z = upd f662 ((25 : Int32).toNatClampNeg) 85 := ⟨_, rfl⟩
  rw [← ef668] at hP hD
  have tf668 : ∀ j, j < 26 → f668 j = gTabB.getD j 0 := by rw [ef668]; exact g_tab (i := 25) tf662 rfl
  clear ef668 tf662
  have hP : va_P D vwCl ([(h0, .inr (6, [.ref q7, .null, .null, .null, .null, .int 0, .null, .int 0, .int 0, .null, .int 0, .int 0, .int 0, .int 0, .int 0, .int 0, .int 0])), (q7, .inl (cy 0, 85, .inl f512)), (q519, .inl (cy 0, 26, .inl f668))]) H := hP
  have hD : va_D (gF h0 s.heap.size) ([(h0, .inr (6, [.ref q7, .null, .null, .null, .null, .int 0, .null, .int 0, .int 0, .null, .int 0, .int 0, .int 0, .int 0, .int 0, .int 0, .int 0])), (q7, .inl (cy 0, 85, .inl f512)), (q519, .inl (cy 0, 26, .inl f668))]) := hD
  refine va_putF (D := D) (ci := 6) (v := .ref q519) (ty := .array .int) (C := RX6) (T := TX6) (N := 17) hx hb hts hin9 tyX6 tyX6_ok nmX6 hown hK.1 hP hD hS 0 rfl rfl 1 (by decide) (hts (.fieldLink RX6 13 "AdventureParserModel" "begins" "[I") (by decide +kernel)) (fun _ h9 => h9) rfl hin rfl (by decide +kernel) rfl rfl (Nat.le_of_ble_eq_true rfl) dX6_init_669 (fun H locs hP hD hS => ?_)
  have hP : va_P D vwCl ([(h0, .inr (6, [.ref q7, .ref q519, .null, .null, .null, .int 0, .null, .int 0, .int 0, .null, .int 0, .int 0, .int 0, .int 0, .int 0, .int 0, .int 0])), (q7, .inl (cy 0, 85, .inl f512)), (q519, .inl (cy 0, 26, .inl f668))]) H := hP
  have hD : va_D (gF h0 s.heap.size) ([(h0, .inr (6, [.ref q7, .ref q519, .null, .null, .null, .int 0, .null, .int 0, .int 0, .null, .int 0, .int 0, .int 0, .int 0, .int 0, .int 0, .int 0])), (q7, .inl (cy 0, 85, .inl f512)), (q519, .inl (cy 0, 26, .inl f668))]) := hD
  refine lv_aload_n hx hb dX6_init_672 rfl (lv_at hl 0 rfl) ?_
  refine lv_bipush (v := 122) hx hb dX6_init_673 (by decide) ?_
  refine va_newa (atype := .int) (ty := .int) (a0 := (122, .inl (fun _ => 0))) (N' := 122) hx hb (hts (.arrayClass .int) (by decide +kernel)) rfl hK.1 hP hD hS hA (fun _ => rfl) (by decide) (by decide) (by decide) (Nat.le_of_ble_eq_true rfl) (Nat.le_of_ble_eq_true rfl) dX6_init_675 (fun q675 cA H hKn hP hD hS => ?_)
  have eA := gcy_i hKn
  subst eA
  have hP : va_P D vwCl ([(h0, .inr (6, [.ref q7, .ref q519, .null, .null, .null, .int 0, .null, .int 0, .int 0, .null, .int 0, .int 0, .int 0, .int 0, .int 0, .int 0, .int 0])), (q7, .inl (cy 0, 85, .inl f512)), (q519, .inl (cy 0, 26, .inl f668)), (q675, .inl (cy 0, 122, .inl (fun _ => 0)))]) H := hP
  have hD : va_D (gF h0 s.heap.size) ([(h0, .inr (6, [.ref q7, .ref q519, .null, .null, .null, .int 0, .null, .int 0, .int 0, .null, .int 0, .int 0, .int 0, .int 0, .int 0, .int 0, .int 0])), (q7, .inl (cy 0, 85, .inl f512)), (q519, .inl (cy 0, 26, .inl f668)), (q675, .inl (cy 0, 122, .inl (fun _ => 0)))]) := hD
  refine va_putF (D := D) (ci := 6) (v := .ref q675) (ty := .array .int) (C := RX6) (T := TX6) (N := 17) hx hb hts hin9 tyX6 tyX6_ok nmX6 hown hK.1 hP hD hS 0 rfl rfl 2 (by decide) (hts (.fieldLink RX6 16 "AdventureParserModel" "s" "[I") (by decide +kernel)) (fun _ h9 => h9) rfl hin rfl (by decide +kernel) rfl rfl (Nat.le_of_ble_eq_true rfl) dX6_init_677 (fun H locs hP hD hS => ?_)
  have hP : va_P D vwCl ([(h0, .inr (6, [.ref q7, .ref q519, .ref q675, .null, .null, .int 0, .null, .int 0, .int 0, .null, .int 0, .int 0, .int 0, .int 0, .int 0, .int 0, .int 0])), (q7, .inl (cy 0, 85, .inl f512)), (q519, .inl (cy 0, 26, .inl f668)), (q675, .inl (cy 0, 122, .inl (fun _ => 0)))]) H := hP
  have hD : va_D (gF h0 s.heap.size) ([(h0, .inr (6, [.ref q7, .ref q519, .ref q675, .null, .null, .int 0, .null, .int 0, .int 0, .null, .int 0, .int 0, .int 0, .int 0, .int 0, .int 0, .int 0])), (q7, .inl (cy 0, 85, .inl f512)), (q519, .inl (cy 0, 26, .inl f668)), (q675, .inl (cy 0, 122, .inl (fun _ => 0)))]) := hD
  refine lv_aload_n hx hb dX6_init_680 rfl (lv_at hl 0 rfl) ?_
  refine lv_bipush (v := 122) hx hb dX6_init_681 (by decide) ?_
  refine va_newa (atype := .int) (ty := .int) (a0 := (122, .inl (fun _ => 0))) (N' := 122) hx hb (hts (.arrayClass .int) (by decide +kernel)) rfl hK.1 hP hD hS hA (fun _ => rfl) (by decide) (by decide) (by decide) (Nat.le_of_ble_eq_true rfl) (Nat.le_of_ble_eq_true rfl) dX6_init_683 (fun q683 cA H hKn hP hD hS => ?_)
  have eA := gcy_i hKn
  subst eA
  have hP : va_P D vwCl ([(h0, .inr (6, [.ref q7, .ref q519, .ref q675, .null, .null, .int 0, .null, .int 0, .int 0, .null, .int 0, .int 0, .int 0, .int 0, .int 0, .int 0, .int 0])), (q7, .inl (cy 0, 85, .inl f512)), (q519, .inl (cy 0, 26, .inl f668)), (q675, .inl (cy 0, 122, .inl (fun _ => 0))), (q683, .inl (cy 0, 122, .inl (fun _ => 0)))]) H := hP
  have hD : va_D (gF h0 s.heap.size) ([(h0, .inr (6, [.ref q7, .ref q519, .ref q675, .null, .null, .int 0, .null, .int 0, .int 0, .null, .int 0, .int 0, .int 0, .int 0, .int 0, .int 0, .int 0])), (q7, .inl (cy 0, 85, .inl f512)), (q519, .inl (cy 0, 26, .inl f668)), (q675, .inl (cy 0, 122, .inl (fun _ => 0))), (q683, .inl (cy 0, 122, .inl (fun _ => 0)))]) := hD
  refine va_putF (D := D) (ci := 6) (v := .ref q683) (ty := .array .int) (C := RX6) (T := TX6) (N := 17) hx hb hts hin9 tyX6 tyX6_ok nmX6 hown hK.1 hP hD hS 0 rfl rfl 3 (by decide) (hts (.fieldLink RX6 19 "AdventureParserModel" "aside" "[I") (by decide +kernel)) (fun _ h9 => h9) rfl hin rfl (by decide +kernel) rfl rfl (Nat.le_of_ble_eq_true rfl) dX6_init_685 (fun H locs hP hD hS => ?_)
  have hP : va_P D vwCl ([(h0, .inr (6, [.ref q7, .ref q519, .ref q675, .ref q683, .null, .int 0, .null, .int 0, .int 0, .null, .int 0, .int 0, .int 0, .int 0, .int 0, .int 0, .int 0])), (q7, .inl (cy 0, 85, .inl f512)), (q519, .inl (cy 0, 26, .inl f668)), (q675, .inl (cy 0, 122, .inl (fun _ => 0))), (q683, .inl (cy 0, 122, .inl (fun _ => 0)))]) H := hP
  have hD : va_D (gF h0 s.heap.size) ([(h0, .inr (6, [.ref q7, .ref q519, .ref q675, .ref q683, .null, .int 0, .null, .int 0, .int 0, .null, .int 0, .int 0, .int 0, .int 0, .int 0, .int 0, .int 0])), (q7, .inl (cy 0, 85, .inl f512)), (q519, .inl (cy 0, 26, .inl f668)), (q675, .inl (cy 0, 122, .inl (fun _ => 0))), (q683, .inl (cy 0, 122, .inl (fun _ => 0)))]) := hD
  refine lv_aload_n hx hb dX6_init_688 rfl (lv_at hl 0 rfl) ?_
  refine lv_sipush (v := 732) hx hb dX6_init_689 (by decide) ?_
  refine va_newa (atype := .int) (ty := .int) (a0 := (732, .inl (fun _ => 0))) (N' := 732) hx hb (hts (.arrayClass .int) (by decide +kernel)) rfl hK.1 hP hD hS hA (fun _ => rfl) (by decide) (by decide) (by decide) (Nat.le_of_ble_eq_true rfl) (Nat.le_of_ble_eq_true rfl) dX6_init_692 (fun q692 cA H hKn hP hD hS => ?_)
  have eA := gcy_i hKn
  subst eA
  have hP : va_P D vwCl ([(h0, .inr (6, [.ref q7, .ref q519, .ref q675, .ref q683, .null, .int 0, .null, .int 0, .int 0, .null, .int 0, .int 0, .int 0, .int 0, .int 0, .int 0, .int 0])), (q7, .inl (cy 0, 85, .inl f512)), (q519, .inl (cy 0, 26, .inl f668)), (q675, .inl (cy 0, 122, .inl (fun _ => 0))), (q683, .inl (cy 0, 122, .inl (fun _ => 0))), (q692, .inl (cy 0, 732, .inl (fun _ => 0)))]) H := hP
  have hD : va_D (gF h0 s.heap.size) ([(h0, .inr (6, [.ref q7, .ref q519, .ref q675, .ref q683, .null, .int 0, .null, .int 0, .int 0, .null, .int 0, .int 0, .int 0, .int 0, .int 0, .int 0, .int 0])), (q7, .inl (cy 0, 85, .inl f512)), (q519, .inl (cy 0, 26, .inl f668)), (q675, .inl (cy 0, 122, .inl (fun _ => 0))), (q683, .inl (cy 0, 122, .inl (fun _ => 0))), (q692, .inl (cy 0, 732, .inl (fun _ => 0)))]) := hD
  refine va_putF (D := D) (ci := 6) (v := .ref q692) (ty := .array .int) (C := RX6) (T := TX6) (N := 17) hx hb hts hin9 tyX6 tyX6_ok nmX6 hown hK.1 hP hD hS 0 rfl rfl 4 (by decide) (hts (.fieldLink RX6 22 "AdventureParserModel" "before" "[I") (by decide +kernel)) (fun _ h9 => h9) rfl hin rfl (by decide +kernel) rfl rfl (Nat.le_of_ble_eq_true rfl) dX6_init_694 (fun H locs hP hD hS => ?_)
  have hP : va_P D vwCl ([(h0, .inr (6, [.ref q7, .ref q519, .ref q675, .ref q683, .ref q692, .int 0, .null, .int 0, .int 0, .null, .int 0, .int 0, .int 0, .int 0, .int 0, .int 0, .int 0])), (q7, .inl (cy 0, 85, .inl f512)), (q519, .inl (cy 0, 26, .inl f668)), (q675, .inl (cy 0, 122, .inl (fun _ => 0))), (q683, .inl (cy 0, 122, .inl (fun _ => 0))), (q692, .inl (cy 0, 732, .inl (fun _ => 0)))]) H := hP
  have hD : va_D (gF h0 s.heap.size) ([(h0, .inr (6, [.ref q7, .ref q519, .ref q675, .ref q683, .ref q692, .int 0, .null, .int 0, .int 0, .null, .int 0, .int 0, .int 0, .int 0, .int 0, .int 0, .int 0])), (q7, .inl (cy 0, 85, .inl f512)), (q519, .inl (cy 0, 26, .inl f668)), (q675, .inl (cy 0, 122, .inl (fun _ => 0))), (q683, .inl (cy 0, 122, .inl (fun _ => 0))), (q692, .inl (cy 0, 732, .inl (fun _ => 0)))]) := hD
  refine lv_aload_n hx hb dX6_init_697 rfl (lv_at hl 0 rfl) ?_
  refine lv_bipush (v := 60) hx hb dX6_init_698 (by decide) ?_
  refine va_newa (atype := .int) (ty := .int) (a0 := (60, .inl (fun _ => 0))) (N' := 60) hx hb (hts (.arrayClass .int) (by decide +kernel)) rfl hK.1 hP hD hS hA (fun _ => rfl) (by decide) (by decide) (by decide) (Nat.le_of_ble_eq_true rfl) (Nat.le_of_ble_eq_true rfl) dX6_init_700 (fun q700 cA H hKn hP hD hS => ?_)
  have eA := gcy_i hKn
  subst eA
  have hP : va_P D vwCl ([(h0, .inr (6, [.ref q7, .ref q519, .ref q675, .ref q683, .ref q692, .int 0, .null, .int 0, .int 0, .null, .int 0, .int 0, .int 0, .int 0, .int 0, .int 0, .int 0])), (q7, .inl (cy 0, 85, .inl f512)), (q519, .inl (cy 0, 26, .inl f668)), (q675, .inl (cy 0, 122, .inl (fun _ => 0))), (q683, .inl (cy 0, 122, .inl (fun _ => 0))), (q692, .inl (cy 0, 732, .inl (fun _ => 0))), (q700, .inl (cy 0, 60, .inl (fun _ => 0)))]) H := hP
  have hD : va_D (gF h0 s.heap.size) ([(h0, .inr (6, [.ref q7, .ref q519, .ref q675, .ref q683, .ref q692, .int 0, .null, .int 0, .int 0, .null, .int 0, .int 0, .int 0, .int 0, .int 0, .int 0, .int 0])), (q7, .inl (cy 0, 85, .inl f512)), (q519, .inl (cy 0, 26, .inl f668)), (q675, .inl (cy 0, 122, .inl (fun _ => 0))), (q683, .inl (cy 0, 122, .inl (fun _ => 0))), (q692, .inl (cy 0, 732, .inl (fun _ => 0))), (q700, .inl (cy 0, 60, .inl (fun _ => 0)))]) := hD
  refine va_putF (D := D) (ci := 6) (v := .ref q700) (ty := .array .int) (C := RX6) (T := TX6) (N := 17) hx hb hts hin9 tyX6 tyX6_ok nmX6 hown hK.1 hP hD hS 0 rfl rfl 6 (by decide) (hts (.fieldLink RX6 25 "AdventureParserModel" "text" "[I") (by decide +kernel)) (fun _ h9 => h9) rfl hin rfl (by decide +kernel) rfl rfl (Nat.le_of_ble_eq_true rfl) dX6_init_702 (fun H locs hP hD hS => ?_)
  have hP : va_P D vwCl ([(h0, .inr (6, [.ref q7, .ref q519, .ref q675, .ref q683, .ref q692, .int 0, .ref q700, .int 0, .int 0, .null, .int 0, .int 0, .int 0, .int 0, .int 0, .int 0, .int 0])), (q7, .inl (cy 0, 85, .inl f512)), (q519, .inl (cy 0, 26, .inl f668)), (q675, .inl (cy 0, 122, .inl (fun _ => 0))), (q683, .inl (cy 0, 122, .inl (fun _ => 0))), (q692, .inl (cy 0, 732, .inl (fun _ => 0))), (q700, .inl (cy 0, 60, .inl (fun _ => 0)))]) H := hP
  have hD : va_D (gF h0 s.heap.size) ([(h0, .inr (6, [.ref q7, .ref q519, .ref q675, .ref q683, .ref q692, .int 0, .ref q700, .int 0, .int 0, .null, .int 0, .int 0, .int 0, .int 0, .int 0, .int 0, .int 0])), (q7, .inl (cy 0, 85, .inl f512)), (q519, .inl (cy 0, 26, .inl f668)), (q675, .inl (cy 0, 122, .inl (fun _ => 0))), (q683, .inl (cy 0, 122, .inl (fun _ => 0))), (q692, .inl (cy 0, 732, .inl (fun _ => 0))), (q700, .inl (cy 0, 60, .inl (fun _ => 0)))]) := hD
  refine lv_aload_n hx hb dX6_init_705 rfl (lv_at hl 0 rfl) ?_
  refine lv_bipush (v := 31) hx hb dX6_init_706 (by decide) ?_
  refine va_newa (atype := .int) (ty := .int) (a0 := (31, .inl (fun _ => 0))) (N' := 31) hx hb (hts (.arrayClass .int) (by decide +kernel)) rfl hK.1 hP hD hS hA (fun _ => rfl) (by decide) (by decide) (by decide) (Nat.le_of_ble_eq_true rfl) (Nat.le_of_ble_eq_true rfl) dX6_init_708 (fun q708 cA H hKn hP hD hS => ?_)
  have eA := gcy_i hKn
  subst eA
  have hP : va_P D vwCl ([(h0, .inr (6, [.ref q7, .ref q519, .ref q675, .ref q683, .ref q692, .int 0, .ref q700, .int 0, .int 0, .null, .int 0, .int 0, .int 0, .int 0, .int 0, .int 0, .int 0])), (q7, .inl (cy 0, 85, .inl f512)), (q519, .inl (cy 0, 26, .inl f668)), (q675, .inl (cy 0, 122, .inl (fun _ => 0))), (q683, .inl (cy 0, 122, .inl (fun _ => 0))), (q692, .inl (cy 0, 732, .inl (fun _ => 0))), (q700, .inl (cy 0, 60, .inl (fun _ => 0))), (q708, .inl (cy 0, 31, .inl (fun _ => 0)))]) H := hP
  have hD : va_D (gF h0 s.heap.size) ([(h0, .inr (6, [.ref q7, .ref q519, .ref q675, .ref q683, .ref q692, .int 0, .ref q700, .int 0, .int 0, .null, .int 0, .int 0, .int 0, .int 0, .int 0, .int 0, .int 0])), (q7, .inl (cy 0, 85, .inl f512)), (q519, .inl (cy 0, 26, .inl f668)), (q675, .inl (cy 0, 122, .inl (fun _ => 0))), (q683, .inl (cy 0, 122, .inl (fun _ => 0))), (q692, .inl (cy 0, 732, .inl (fun _ => 0))), (q700, .inl (cy 0, 60, .inl (fun _ => 0))), (q708, .inl (cy 0, 31, .inl (fun _ => 0)))]) := hD
  refine va_putF (D := D) (ci := 6) (v := .ref q708) (ty := .array .int) (C := RX6) (T := TX6) (N := 17) hx hb hts hin9 tyX6 tyX6_ok nmX6 hown hK.1 hP hD hS 0 rfl rfl 9 (by decide) (hts (.fieldLink RX6 28 "AdventureParserModel" "words" "[I") (by decide +kernel)) (fun _ h9 => h9) rfl hin rfl (by decide +kernel) rfl rfl (Nat.le_of_ble_eq_true rfl) dX6_init_710 (fun H locs hP hD hS => ?_)
  have hP : va_P D vwCl ([(h0, .inr (6, [.ref q7, .ref q519, .ref q675, .ref q683, .ref q692, .int 0, .ref q700, .int 0, .int 0, .ref q708, .int 0, .int 0, .int 0, .int 0, .int 0, .int 0, .int 0])), (q7, .inl (cy 0, 85, .inl f512)), (q519, .inl (cy 0, 26, .inl f668)), (q675, .inl (cy 0, 122, .inl (fun _ => 0))), (q683, .inl (cy 0, 122, .inl (fun _ => 0))), (q692, .inl (cy 0, 732, .inl (fun _ => 0))), (q700, .inl (cy 0, 60, .inl (fun _ => 0))), (q708, .inl (cy 0, 31, .inl (fun _ => 0)))]) H := hP
  have hD : va_D (gF h0 s.heap.size) ([(h0, .inr (6, [.ref q7, .ref q519, .ref q675, .ref q683, .ref q692, .int 0, .ref q700, .int 0, .int 0, .ref q708, .int 0, .int 0, .int 0, .int 0, .int 0, .int 0, .int 0])), (q7, .inl (cy 0, 85, .inl f512)), (q519, .inl (cy 0, 26, .inl f668)), (q675, .inl (cy 0, 122, .inl (fun _ => 0))), (q683, .inl (cy 0, 122, .inl (fun _ => 0))), (q692, .inl (cy 0, 732, .inl (fun _ => 0))), (q700, .inl (cy 0, 60, .inl (fun _ => 0))), (q708, .inl (cy 0, 31, .inl (fun _ => 0)))]) := hD
  refine lv_aload_n hx hb dX6_init_713 rfl (lv_at hl 0 rfl) ?_
  refine va_get (D := D) (ci := 6) (v := .ref q675) (C := RX6) (T := TX6) (N := 17) hx hb hts hin9 hown hK.1 hP 0 rfl rfl 2 (by decide) (hts (.fieldLink RX6 16 "AdventureParserModel" "s" "[I") (by decide +kernel)) (fun _ h9 => h9) rfl dX6_init_714 ?_
  refine lv_bipush (v := 50) hx hb dX6_init_717 (by decide) ?_
  refine lv_iconst (v := (-1)) hx hb dX6_init_719 (by decide) ?_
  refine va_iast (i := 50) hx hb hK.1 hP hD hS 3 0 rfl rfl (by unfold vp_in; decide) dX6_init_720 (fun H locs hP hD hS => ?_)
  have hP : va_P D vwCl ([(h0, .inr (6, [.ref q7, .ref q519, .ref q675, .ref q683, .ref q692, .int 0, .ref q700, .int 0, .int 0, .ref q708, .int 0, .int 0, .int 0, .int 0, .int 0, .int 0, .int 0])), (q7, .inl (cy 0, 85, .inl f512)), (q519, .inl (cy 0, 26, .inl f668)), (q675, .inl (cy 0, 122, .inl (upd (fun _ => 0) 50 (-1)))), (q683, .inl (cy 0, 122, .inl (fun _ => 0))), (q692, .inl (cy 0, 732, .inl (fun _ => 0))), (q700, .inl (cy 0, 60, .inl (fun _ => 0))), (q708, .inl (cy 0, 31, .inl (fun _ => 0)))]) H := hP
  have hD : va_D (gF h0 s.heap.size) ([(h0, .inr (6, [.ref q7, .ref q519, .ref q675, .ref q683, .ref q692, .int 0, .ref q700, .int 0, .int 0, .ref q708, .int 0, .int 0, .int 0, .int 0, .int 0, .int 0, .int 0])), (q7, .inl (cy 0, 85, .inl f512)), (q519, .inl (cy 0, 26, .inl f668)), (q675, .inl (cy 0, 122, .inl (upd (fun _ => 0) 50 (-1)))), (q683, .inl (cy 0, 122, .inl (fun _ => 0))), (q692, .inl (cy 0, 732, .inl (fun _ => 0))), (q700, .inl (cy 0, 60, .inl (fun _ => 0))), (q708, .inl (cy 0, 31, .inl (fun _ => 0)))]) := hD
  obtain ⟨q, eq⟩ : ∃ q : Nat → Nat, q = (fun j => if j = 0 then h0 else if j = 1 then q7 else if j = 2 then q519 else if j = 3 then q675 else if j = 4 then q683 else if j = 5 then q692 else if j = 6 then q700 else q708) := ⟨_, rfl⟩
  have h1 : ∀ j, j < 8 → va_at D vwCl (q j, gEr cy (fun k => q (k - 81)) 0 (81 + j) (mrow f512 f668 j) (kd (81 + j))) H := by
    subst eq
    exact lt_s (lt_s (lt_s (lt_s (lt_s (lt_s (lt_s (lt_s (lt_0) (hP 0 _ rfl)) (hP 1 _ rfl)) (hP 2 _ rfl)) (hP 3 _ rfl)) (hP 4 _ rfl)) (hP 5 _ rfl)) (hP 6 _ rfl)) (hP 7 _ rfl)
  have h2 := g_addr (q := q) (n := 8) hD (by subst eq; exact lt_s (lt_s (lt_s (lt_s (lt_s (lt_s (lt_s (lt_s (lt_0) (⟨_, rfl⟩)) (⟨_, rfl⟩)) (⟨_, rfl⟩)) (⟨_, rfl⟩)) (⟨_, rfl⟩)) (⟨_, rfl⟩)) (⟨_, rfl⟩)) (⟨_, rfl⟩))
  refine W.widen (k := 7) (n := 1178) (Nat.le_of_ble_eq_true rfl) (Nat.le_of_ble_eq_true rfl) ?_
  exact W.vret hx hb hr (fun t ht hW => ⟨⟨(q, f512, f668), rfl, ⟨tf512, tf668⟩, by rw [eq]; rfl, by rw [ht]; exact h1, h2.1, h2.2⟩, hS.F ht⟩) hS.2.2 dX6_init_721
