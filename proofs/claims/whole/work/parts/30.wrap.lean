/-! the law's wrappers: what they answer, by what their callee does -/
def gOut (o : Nat ⊕ Int32) (a b : Nat) (v : gV) (u : Int64) : Option (Int32 × gV × Int64) := match o with
  | .inl i => if i = a then some (1, v, u) else if i = b then some (2, v, u) else none
  | .inr r => some (0, v, r.toInt64)
def gOutZ (o : Nat ⊕ Int32) (a b : Nat) (v : gV) (u : Int64) : Option (Int32 × gV × Int64) := match o with
  | .inl i => if i = a then some (1, v, u) else if i = b then some (2, v, u) else none
  | .inr r => some (0, v, if r = 0 then 0 else 1)
theorem gOut_l {i a b : Nat} {v : gV} {u : Int64} {y : Option (Int32 × gV × Int64)} (h : gOut (.inl i) a b v u = y) : (if i = a then some (1, v, u) else if i = b then some (2, v, u) else none) = y := h
theorem gOut_r {r : Int32} {a b : Nat} {v : gV} {u : Int64} {y : Option (Int32 × gV × Int64)} (h : gOut (.inr r) a b v u = y) : some (0, v, r.toInt64) = y := h
theorem gOutZ_l {i a b : Nat} {v : gV} {u : Int64} {y : Option (Int32 × gV × Int64)} (h : gOutZ (.inl i) a b v u = y) : (if i = a then some (1, v, u) else if i = b then some (2, v, u) else none) = y := h
theorem gOutZ_r {r : Int32} {a b : Nat} {v : gV} {u : Int64} {y : Option (Int32 × gV × Int64)} (h : gOutZ (.inr r) a b v u = y) : some (0, v, if r = 0 then (0 : Int64) else 1) = y := h
theorem g_some3 {a a2 : Int32} {v v2 : gV} {u u2 : Int64} (h : some (a, v, u) = some (a2, v2, u2)) : a = a2 ∧ v = v2 ∧ u = u2 := by cases h; exact ⟨rfl, rfl, rfl⟩
section GL
variable {p : Program} {l : Launch} {e : Env} {R : Room} {s : State} {m : MethodId} {args : Array Value} {below : List Frame} {meth : Method} {c : Code} {H : Heap} {locs : List Loc} {cells slots : Nat} {Q : State → Prop}
variable {cc : ByteArray} {pc : Nat} {ls : Array Slot} {rest st : List Value} {D : va_G} {cy : Nat → ClassId} {ad : Nat → Nat} {tL z0 : Nat} {v v' : gV} {u u' : Int64}
theorem gRet_w {x r0 : Int32} (hx : p.tables.exec = Jvm.exec) (hb : c.code = cc) (hr : meth.sig.returnType = some .int) (hlocks : meth.locks = false) (hK : gK D cy tL z0 s s.heap) (hP : va_P D vwCl (gW cy ad v u) H) (hS : va_S (gA z0) s.heap H locs) (e1 : x = r0 ∧ v = v' ∧ u = u') (hdg : decode cc pc = .ok (.ireturn, 1)) : W p l e R s m args below meth c H locs cells slots (MQ below (gQi D cy ad tL z0 v' u' r0) args s cells slots (gA z0)) (F0 m pc ls [.int x]) := by
  obtain ⟨e1, e2, e3⟩ := e1
  subst e2; subst e3
  exact W.iret (v := x) hx hb hr (fun t ht hW => ⟨⟨x, (), rfl, e1, gB_of hK hP hS ht hW⟩, hS.F ht⟩) hS.2.2 hdg hlocks
theorem gLast {x : Int64} (hx : p.tables.exec = Jvm.exec) (hb : c.code = cc) (hI : gI z0 ad) (hK : gK D cy tL z0 s s.heap) (hP : va_P D vwCl (gW cy ad v u) H) (hS : va_S (gA z0) s.heap H locs) (hdg : decode cc pc = .ok (.lastore, 1))
    (kk : ∀ (H1 : Heap) (locs1 : List Loc), va_P D vwCl (gW cy ad v x) H1 → va_S (gA z0) s.heap H1 locs1 → W p l e R s m args below meth c H1 locs1 cells slots Q (F0 m (pc + 1) ls rest)) : W p l e R s m args below meth c H locs cells slots Q (F0 m pc ls (.long x :: .int 0 :: .ref (ad 89) :: rest)) :=
  va_last (i := 0) hx hb hK.1 hP (gD hI) hS 89 3 (gW_20 kd89) rfl (by unfold vp_in; decide) hdg (fun H1 locs1 hP1 _ hS1 => kk H1 locs1 (gPset (gS_20 kd89 x) hP1) hS1)
theorem gLald (hx : p.tables.exec = Jvm.exec) (hb : c.code = cc) (hK : gK D cy tL z0 s s.heap) (hP : va_P D vwCl (gW cy ad v u) H) (hdg : decode cc pc = .ok (.laload, 1))
    (kk : W p l e R s m args below meth c H locs cells slots Q (F0 m (pc + 1) ls (.long u :: rest))) : W p l e R s m args below meth c H locs cells slots Q (F0 m pc ls (.int 0 :: .ref (ad 89) :: rest)) :=
  va_lald (i := 0) hx hb hK.1 hP 89 3 (gW_20 kd89) rfl (by unfold vp_in; decide) hdg kk
theorem gCW {y : MethodName} {bytes : ByteArray} {maxL nL n index : Nat} {ret : Option FieldType} {hh : List (Nat × Nat × Nat × Nat)} {ws Ts : List Cond} {rm : Room} {own : String} {As : List Value} {r0 : Int32} (S : CallFix p m c cc nL s args Ts own) (hM : Met l y ws rm (gPc D cy ad tL z0 v u As) (gQi D cy ad tL z0 v' u' r0) 1 6 (gA z0)) (cw : vx_CSW R s args own index y bytes maxL ret hh ws rm 1 6 n) (hK : gK D cy tL z0 s s.heap) (hP : va_P D vwCl (gW cy ad v u) H) (hS : va_S (gA z0) s.heap H locs) (hsz : ls.size = nL) (hn : As.length = n) (hst : st = As.reverse ++ rest) (hw : (rest.map fun v => v.category).sum ≤ 8) (hdg : decode cc pc = .ok (.invokestatic index, 3)) (hf : cells + 1 ≤ R.cells ∧ slots + 6 ≤ R.slots)
    (kk : ∀ (H1 : Heap) (locs1 : List Loc), va_P D vwCl (gW cy ad v' u') H1 → va_S (gA z0) s.heap H1 locs1 → W p l e R s m args below meth c H1 locs1 (cells + 1) (slots + 6) Q (F0 m (pc + 3) ls (.int r0 :: rest))) : W p l e R s m args below meth c H locs cells slots Q (F0 m pc ls st) :=
  va_calli (vx_runSW (As := As) (rest := rest) S hM cw ⟨gBlind _, fun U hU hW => ⟨rfl, gB_of hK hP hS hU hW⟩⟩ rfl hn hsz hst (lv_room hw) hdg hf) hS (fun _ _ h => h) (fun _ h => h) (fun r _ t H1 locs1 ht hvm e1 hB _ _ hS1 => by subst e1; exact kk H1 locs1 (ht ▸ hB.1) hS1)
end GL
def sL_addObject (n : Nat) (v : gV) (u : Int64) (x1 : Int32) (x2 : Int32) (x3 : Int32) : Option (Int32 × gV × Int64) := (sX5_addObject n v x1 x2 x3).bind fun q => gOut q.1 0 1 q.2 u
def sL_moveTo (n : Nat) (v : gV) (u : Int64) (x1 : Int32) : Option (Int32 × gV × Int64) := (sX5_moveTo n v x1).bind fun q => gOut q.1 2 2 q.2 u
def sL_noun (v : gV) (u : Int64) (x1 : Int32) : Option (Int32 × gV × Int64) := (sX5_noun v x1).bind fun q => gOut q 2 2 v u
def sL_adjective (v : gV) (u : Int64) (x1 : Int32) : Option (Int32 × gV × Int64) := (sX5_adjective v x1).bind fun q => gOut q 2 2 v u
def sL_place (v : gV) (u : Int64) (x1 : Int32) : Option (Int32 × gV × Int64) := (sX5_place v x1).bind fun q => gOut q 2 2 v u
def sL_isOpen (v : gV) (u : Int64) (x1 : Int32) : Option (Int32 × gV × Int64) := (sX5_isOpen v x1).bind fun q => gOutZ q 2 2 v u
def sL_objectsAt (n : Nat) (v : gV) (u : Int64) (x1 : Int32) : Option (Int32 × gV × Int64) := (sX5_objectsAt n v x1).bind fun q => gOut q 2 2 v u
def sL_suitable (n : Nat) (v : gV) (u : Int64) (x1 : Int32) : Option (Int32 × gV × Int64) := (sX5_suitable n v x1).bind fun q => gOut q 2 2 v u
def sL_fitting (n : Nat) (v : gV) (u : Int64) (x1 : Int32) (x2 : Int32) : Option (Int32 × gV × Int64) := (sX5_fitting n v x1 x2).bind fun q => gOut q 2 2 v u
def sL_append (v : gV) (u : Int64) (x1 : Int32) : Option (Int32 × gV × Int64) := (sX5_append v x1).bind fun q => gOut q.1 0 1 q.2 u
def sL_appendWord (n : Nat) (v : gV) (u : Int64) (x1 : Int32) : Option (Int32 × gV × Int64) := (sX5_appendWord n v x1).bind fun q => gOut q.1 2 1 q.2 u
def sL_enter (n : Nat) (v : gV) (u : Int64) : Option (Int32 × gV × Int64) := (sX5_enter n v).bind fun q => gOut q.1 0 0 q.2 u
def sL_ifEntered (n : Nat) (v : gV) (u : Int64) : Option (Int32 × gV × Int64) := (sX5_ifEntered n v).bind fun q => gOut q.1 0 0 q.2 u
def sL_undo (n : Nat) (v : gV) (u : Int64) : Option (Int32 × gV × Int64) := (sX5_undo n v).bind fun q => gOut q.1 1 1 q.2 u
set_option maxHeartbeats 4000000 in
set_option maxRecDepth 100000 in
theorem cL_addObject_c (l : Launch) (hst : l.stackTraces = false) (D : va_G) (cy : Nat → ClassId) (ad : Nat → Nat) (tL z0 : Nat) (hI : gI z0 ad) (n : Nat) (v : gV) (u : Int64) (x1 : Int32) (x2 : Int32) (x3 : Int32) (r0 : Int32) (v1 : gV) (u1 : Int64) (hs : sL_addObject n v u x1 x2 x3 = some (r0, v1, u1)) : Met l yL_addObject wsL_addObject ({ frames := 7, cells := 1, slots := 6, locals := 114 } : Room) (gPc D cy ad tL z0 v u [.ref (ad 0), .int x1, .int x2, .int x3, .ref (ad 89)]) (gQi D cy ad tL z0 v1 u1 r0) 1 6 (gA z0) := by
  refine va_MetW (cc := cL_addObject) (maxL := 6) (ret := (some .int)) (hh := [(0, 12, 15, 13), (0, 12, 19, 15)]) (by decide) rfl ?_
  intro p e s m args below meth c s₁ B hml hv
  obtain ⟨rfl, hB0⟩ := hv
  have hP : va_P D vwCl (gW cy ad v u) s.heap := hB0.1
  have hK : gK D cy tL z0 s s.heap := hB0.2
  have hx := B.exec
  have hb := B.bytes
  have hr := B.returns
  have hts := atoms_spec (ws := wsL_addObject) B.pre
  have hown : s.vm.findClass RL = some m.cls := findClass_of_methodNamed B.named
  have hlocks := B.notSynchronized
  have hS : va_S (gA z0) s.heap s.heap [] := va_S.rf
  have htab : c.exceptionTable.toList = tableOf [(0, 12, 15, 13), (0, 12, 19, 15)] := vx_table (x := yL_addObject) B (hts (.codeWith yL_addObject cL_addObject 6 (some .int) [(0, 12, 15, 13), (0, 12, 19, 15)]) List.mem_cons_self)
  have hl := lv_entry ([.ref (ad 0), .int x1, .int x2, .int x3, .ref (ad 89)]) (n := 6) (Nat.le_of_ble_eq_true rfl)
  rw [lg_entry_eq]
  generalize (lg_sl ([.ref (ad 0), .int x1, .int x2, .int x3, .ref (ad 89)]) ++ List.replicate (6 - (lg_sl ([.ref (ad 0), .int x1, .int x2, .int x3, .ref (ad 89)])).length) Slot.unset).toArray = ls at hl ⊢
  have hl : lv_has ls 6 [(0, .ref (ad 0)), (1, .int x1), (2, .int x2), (3, .int x3), (4, .ref (ad 89))] := hl
  clear hB0
  unfold sL_addObject at hs
  refine g_bind hs (fun q hq hs => ?_)
  refine lv_aload hx hb dL_addObject_0 (lv_at hl 4 rfl) ?_
  refine lv_iconst (v := 0) hx hb dL_addObject_2 (by decide) ?_
  refine lv_aload_n hx hb dL_addObject_3 rfl (lv_at hl 0 rfl) ?_
  refine lv_iload_n hx hb dL_addObject_4 rfl (lv_at hl 1 rfl) ?_
  refine lv_iload_n hx hb dL_addObject_5 rfl (lv_at hl 2 rfl) ?_
  refine lv_iload_n hx hb dL_addObject_6 rfl (lv_at hl 3 rfl) ?_
  refine gCX_i (As := [.int x1, .int x2, .int x3]) (rest := [.int 0, .ref (ad 89)]) ⟨hx, hb, hml, hown, hts⟩ (cX5_addObject_c l hst D cy ad tL z0 hI n v u x1 x2 x3 q.1 q.2 hq) (cwV 3 hts gL_addObject_X5_addObject rfl rfl rfl (by decide +kernel) ⟨Nat.le_of_ble_eq_true rfl, Nat.le_of_ble_eq_true rfl⟩) hK hP hS (va_recv hK.1 hP (ci := 5) (q0 := 0) rfl (gW_5 kd0)) hl.1 rfl rfl (Nat.le_of_ble_eq_true rfl) dL_addObject_7 ⟨Nat.le_of_ble_eq_true rfl, Nat.le_of_ble_eq_true rfl⟩ (fun i H locs q9 ce eo hP hS hce hcv hcl => ?_) (fun r H locs eo hP hS => ?_)
  · rw [eo] at hs
    have hs := gOut_l hs
    by_cases h0 : i = 0
    · have hs := g_t hs h0
      subst h0
      refine vx_catch (own := RL) (name := "java/lang/IllegalArgumentException") (E := "java/lang/IllegalArgumentException") hown [] ⟨0, 12, 15, 13⟩ [⟨0, 12, 19, 15⟩] htab (fun z hz => absurd hz List.not_mem_nil) (by decide) (by decide) (hts (.classLink RL 13 "java/lang/IllegalArgumentException") (by decide +kernel)) (va_Nw.use rfl (hK.2.2.2.2.2.2.1 _ (List.mem_of_getElem? (i := 0) rfl))) hce hcv hcl ?_
      refine lv_astore (lv' := [(5, .ref q9), (0, .ref (ad 0)), (1, .int x1), (2, .int x2), (3, .int x3), (4, .ref (ad 89))]) hx hb dL_addObject_15 hl (by decide) rfl (fun ls hl => ?_)
      refine lv_iconst (v := 1) hx hb dL_addObject_17 (by decide) ?_
      exact gRet_w hx hb hr hlocks hK hP hS (g_some3 hs) dL_addObject_18
    · have hs := g_f hs h0
      by_cases h1 : i = 1
      · have hs := g_t hs h1
        subst h1
        refine vx_catch (own := RL) (name := "java/lang/IllegalStateException") (E := "java/lang/IllegalStateException") hown [⟨0, 12, 15, 13⟩] ⟨0, 12, 19, 15⟩ [] htab (fun z hz => by cases List.mem_singleton.mp hz; exact Or.inr ⟨by decide, "java/lang/IllegalArgumentException", hts (.classLink RL 13 "java/lang/IllegalArgumentException") (by decide +kernel), hK.2.2.2.2.2.2.2.1⟩) (by decide) (by decide) (hts (.classLink RL 15 "java/lang/IllegalStateException") (by decide +kernel)) (va_Nw.use rfl (hK.2.2.2.2.2.2.1 _ (List.mem_of_getElem? (i := 1) rfl))) hce hcv hcl ?_
        refine lv_astore (lv' := [(5, .ref q9), (0, .ref (ad 0)), (1, .int x1), (2, .int x2), (3, .int x3), (4, .ref (ad 89))]) hx hb dL_addObject_19 hl (by decide) rfl (fun ls hl => ?_)
        refine lv_iconst (v := 2) hx hb dL_addObject_21 (by decide) ?_
        exact gRet_w hx hb hr hlocks hK hP hS (g_some3 hs) dL_addObject_22
      · exact g_none (g_f hs h1)
  · rw [eo] at hs
    have hs := gOut_r hs
    refine lv_i2l hx hb dL_addObject_10 rfl ?_
    refine gLast hx hb hI hK hP hS dL_addObject_11 (fun H locs hP hS => ?_)
    refine lv_goto (tgt := 23) hx hb dL_addObject_12 (by decide) ?_
    refine lv_iconst (v := 0) hx hb dL_addObject_23 (by decide) ?_
    exact gRet_w hx hb hr hlocks hK hP hS (g_some3 hs) dL_addObject_24
set_option maxHeartbeats 4000000 in
set_option maxRecDepth 100000 in
theorem cL_moveTo_c (l : Launch) (hst : l.stackTraces = false) (D : va_G) (cy : Nat → ClassId) (ad : Nat → Nat) (tL z0 : Nat) (hI : gI z0 ad) (n : Nat) (v : gV) (u : Int64) (x1 : Int32) (r0 : Int32) (v1 : gV) (u1 : Int64) (hs : sL_moveTo n v u x1 = some (r0, v1, u1)) : Met l yL_moveTo wsL_moveTo ({ frames := 7, cells := 1, slots := 6, locals := 112 } : Room) (gPc D cy ad tL z0 v u [.ref (ad 0), .int x1, .ref (ad 89)]) (gQi D cy ad tL z0 v1 u1 r0) 1 6 (gA z0) := by
  refine va_MetW (cc := cL_moveTo) (maxL := 4) (ret := (some .int)) (hh := [(0, 9, 12, 21)]) (by decide) rfl ?_
  intro p e s m args below meth c s₁ B hml hv
  obtain ⟨rfl, hB0⟩ := hv
  have hP : va_P D vwCl (gW cy ad v u) s.heap := hB0.1
  have hK : gK D cy tL z0 s s.heap := hB0.2
  have hx := B.exec
  have hb := B.bytes
  have hr := B.returns
  have hts := atoms_spec (ws := wsL_moveTo) B.pre
  have hown : s.vm.findClass RL = some m.cls := findClass_of_methodNamed B.named
  have hlocks := B.notSynchronized
  have hS : va_S (gA z0) s.heap s.heap [] := va_S.rf
  have htab : c.exceptionTable.toList = tableOf [(0, 9, 12, 21)] := vx_table (x := yL_moveTo) B (hts (.codeWith yL_moveTo cL_moveTo 4 (some .int) [(0, 9, 12, 21)]) List.mem_cons_self)
  have hl := lv_entry ([.ref (ad 0), .int x1, .ref (ad 89)]) (n := 4) (Nat.le_of_ble_eq_true rfl)
  rw [lg_entry_eq]
  generalize (lg_sl ([.ref (ad 0), .int x1, .ref (ad 89)]) ++ List.replicate (4 - (lg_sl ([.ref (ad 0), .int x1, .ref (ad 89)])).length) Slot.unset).toArray = ls at hl ⊢
  have hl : lv_has ls 4 [(0, .ref (ad 0)), (1, .int x1), (2, .ref (ad 89))] := hl
  clear hB0
  unfold sL_moveTo at hs
  refine g_bind hs (fun q hq hs => ?_)
  refine lv_aload_n hx hb dL_moveTo_0 rfl (lv_at hl 2 rfl) ?_
  refine lv_iconst (v := 0) hx hb dL_moveTo_1 (by decide) ?_
  refine lv_aload_n hx hb dL_moveTo_2 rfl (lv_at hl 0 rfl) ?_
  refine lv_iload_n hx hb dL_moveTo_3 rfl (lv_at hl 1 rfl) ?_
  refine gCX_i (As := [.int x1]) (rest := [.int 0, .ref (ad 89)]) ⟨hx, hb, hml, hown, hts⟩ (cX5_moveTo_c l hst D cy ad tL z0 hI n v u x1 q.1 q.2 hq) (cwV 1 hts gL_moveTo_X5_moveTo rfl rfl rfl (by decide +kernel) ⟨Nat.le_of_ble_eq_true rfl, Nat.le_of_ble_eq_true rfl⟩) hK hP hS (va_recv hK.1 hP (ci := 5) (q0 := 0) rfl (gW_5 kd0)) hl.1 rfl rfl (Nat.le_of_ble_eq_true rfl) dL_moveTo_4 ⟨Nat.le_of_ble_eq_true rfl, Nat.le_of_ble_eq_true rfl⟩ (fun i H locs q9 ce eo hP hS hce hcv hcl => ?_) (fun r H locs eo hP hS => ?_)
  · rw [eo] at hs
    have hs := gOut_l hs
    by_cases h0 : i = 2
    · have hs := g_t hs h0
      subst h0
      refine vx_catch (own := RL) (name := "java/lang/IndexOutOfBoundsException") (E := "java/lang/IndexOutOfBoundsException") hown [] ⟨0, 9, 12, 21⟩ [] htab (fun z hz => absurd hz List.not_mem_nil) (by decide) (by decide) (hts (.classLink RL 21 "java/lang/IndexOutOfBoundsException") (by decide +kernel)) (va_Nw.use rfl (hK.2.2.2.2.2.2.1 _ (List.mem_of_getElem? (i := 2) rfl))) hce hcv hcl ?_
      refine lv_astore_n (lv' := [(3, .ref q9), (0, .ref (ad 0)), (1, .int x1), (2, .ref (ad 89))]) hx hb dL_moveTo_12 rfl hl (by decide) rfl (fun ls hl => ?_)
      refine lv_iconst (v := 1) hx hb dL_moveTo_13 (by decide) ?_
      exact gRet_w hx hb hr hlocks hK hP hS (g_some3 hs) dL_moveTo_14
    · have hs := g_f hs h0
      exact g_none (g_f hs h0)
  · rw [eo] at hs
    have hs := gOut_r hs
    refine lv_i2l hx hb dL_moveTo_7 rfl ?_
    refine gLast hx hb hI hK hP hS dL_moveTo_8 (fun H locs hP hS => ?_)
    refine lv_goto (tgt := 15) hx hb dL_moveTo_9 (by decide) ?_
    refine lv_iconst (v := 0) hx hb dL_moveTo_15 (by decide) ?_
    exact gRet_w hx hb hr hlocks hK hP hS (g_some3 hs) dL_moveTo_16
set_option maxHeartbeats 4000000 in
set_option maxRecDepth 100000 in
theorem cL_noun_c (l : Launch) (hst : l.stackTraces = false) (D : va_G) (cy : Nat → ClassId) (ad : Nat → Nat) (tL z0 : Nat) (hI : gI z0 ad) (v : gV) (u : Int64) (x1 : Int32) (r0 : Int32) (v1 : gV) (u1 : Int64) (hs : sL_noun v u x1 = some (r0, v1, u1)) : Met l yL_noun wsL_noun ({ frames := 7, cells := 1, slots := 6, locals := 111 } : Room) (gPc D cy ad tL z0 v u [.ref (ad 0), .int x1, .ref (ad 89)]) (gQi D cy ad tL z0 v1 u1 r0) 1 6 (gA z0) := by
  refine va_MetW (cc := cL_noun) (maxL := 4) (ret := (some .int)) (hh := [(0, 9, 12, 21)]) (by decide) rfl ?_
  intro p e s m args below meth c s₁ B hml hv
  obtain ⟨rfl, hB0⟩ := hv
  have hP : va_P D vwCl (gW cy ad v u) s.heap := hB0.1
  have hK : gK D cy tL z0 s s.heap := hB0.2
  have hx := B.exec
  have hb := B.bytes
  have hr := B.returns
  have hts := atoms_spec (ws := wsL_noun) B.pre
  have hown : s.vm.findClass RL = some m.cls := findClass_of_methodNamed B.named
  have hlocks := B.notSynchronized
  have hS : va_S (gA z0) s.heap s.heap [] := va_S.rf
  have htab : c.exceptionTable.toList = tableOf [(0, 9, 12, 21)] := vx_table (x := yL_noun) B (hts (.codeWith yL_noun cL_noun 4 (some .int) [(0, 9, 12, 21)]) List.mem_cons_self)
  have hl := lv_entry ([.ref (ad 0), .int x1, .ref (ad 89)]) (n := 4) (Nat.le_of_ble_eq_true rfl)
  rw [lg_entry_eq]
  generalize (lg_sl ([.ref (ad 0), .int x1, .ref (ad 89)]) ++ List.replicate (4 - (lg_sl ([.ref (ad 0), .int x1, .ref (ad 89)])).length) Slot.unset).toArray = ls at hl ⊢
  have hl : lv_has ls 4 [(0, .ref (ad 0)), (1, .int x1), (2, .ref (ad 89))] := hl
  clear hB0
  unfold sL_noun at hs
  refine g_bind hs (fun q hq hs => ?_)
  refine lv_aload_n hx hb dL_noun_0 rfl (lv_at hl 2 rfl) ?_
  refine lv_iconst (v := 0) hx hb dL_noun_1 (by decide) ?_
  refine lv_aload_n hx hb dL_noun_2 rfl (lv_at hl 0 rfl) ?_
  refine lv_iload_n hx hb dL_noun_3 rfl (lv_at hl 1 rfl) ?_
  refine gCX_i (As := [.int x1]) (rest := [.int 0, .ref (ad 89)]) ⟨hx, hb, hml, hown, hts⟩ (cX5_noun_c l hst D cy ad tL z0 hI v u x1 q hq) (cwV 1 hts gL_noun_X5_noun rfl rfl rfl (by decide +kernel) ⟨Nat.le_of_ble_eq_true rfl, Nat.le_of_ble_eq_true rfl⟩) hK hP hS (va_recv hK.1 hP (ci := 5) (q0 := 0) rfl (gW_5 kd0)) hl.1 rfl rfl (Nat.le_of_ble_eq_true rfl) dL_noun_4 ⟨Nat.le_of_ble_eq_true rfl, Nat.le_of_ble_eq_true rfl⟩ (fun i H locs q9 ce eo hP hS hce hcv hcl => ?_) (fun r H locs eo hP hS => ?_)
  · rw [eo] at hs
    have hs := gOut_l hs
    by_cases h0 : i = 2
    · have hs := g_t hs h0
      subst h0
      refine vx_catch (own := RL) (name := "java/lang/IndexOutOfBoundsException") (E := "java/lang/IndexOutOfBoundsException") hown [] ⟨0, 9, 12, 21⟩ [] htab (fun z hz => absurd hz List.not_mem_nil) (by decide) (by decide) (hts (.classLink RL 21 "java/lang/IndexOutOfBoundsException") (by decide +kernel)) (va_Nw.use rfl (hK.2.2.2.2.2.2.1 _ (List.mem_of_getElem? (i := 2) rfl))) hce hcv hcl ?_
      refine lv_astore_n (lv' := [(3, .ref q9), (0, .ref (ad 0)), (1, .int x1), (2, .ref (ad 89))]) hx hb dL_noun_12 rfl hl (by decide) rfl (fun ls hl => ?_)
      refine lv_iconst (v := 1) hx hb dL_noun_13 (by decide) ?_
      exact gRet_w hx hb hr hlocks hK hP hS (g_some3 hs) dL_noun_14
    · have hs := g_f hs h0
      exact g_none (g_f hs h0)
  · rw [eo] at hs
    have hs := gOut_r hs
    refine lv_i2l hx hb dL_noun_7 rfl ?_
    refine gLast hx hb hI hK hP hS dL_noun_8 (fun H locs hP hS => ?_)
    refine lv_goto (tgt := 15) hx hb dL_noun_9 (by decide) ?_
    refine lv_iconst (v := 0) hx hb dL_noun_15 (by decide) ?_
    exact gRet_w hx hb hr hlocks hK hP hS (g_some3 hs) dL_noun_16
set_option maxHeartbeats 4000000 in
set_option maxRecDepth 100000 in
theorem cL_adjective_c (l : Launch) (hst : l.stackTraces = false) (D : va_G) (cy : Nat → ClassId) (ad : Nat → Nat) (tL z0 : Nat) (hI : gI z0 ad) (v : gV) (u : Int64) (x1 : Int32) (r0 : Int32) (v1 : gV) (u1 : Int64) (hs : sL_adjective v u x1 = some (r0, v1, u1)) : Met l yL_adjective wsL_adjective ({ frames := 7, cells := 1, slots := 6, locals := 111 } : Room) (gPc D cy ad tL z0 v u [.ref (ad 0), .int x1, .ref (ad 89)]) (gQi D cy ad tL z0 v1 u1 r0) 1 6 (gA z0) := by
  refine va_MetW (cc := cL_adjective) (maxL := 4) (ret := (some .int)) (hh := [(0, 9, 12, 21)]) (by decide) rfl ?_
  intro p e s m args below meth c s₁ B hml hv
  obtain ⟨rfl, hB0⟩ := hv
  have hP : va_P D vwCl (gW cy ad v u) s.heap := hB0.1
  have hK : gK D cy tL z0 s s.heap := hB0.2
  have hx := B.exec
  have hb := B.bytes
  have hr := B.returns
  have hts := atoms_spec (ws := wsL_adjective) B.pre
  have hown : s.vm.findClass RL = some m.cls := findClass_of_methodNamed B.named
  have hlocks := B.notSynchronized
  have hS : va_S (gA z0) s.heap s.heap [] := va_S.rf
  have htab : c.exceptionTable.toList = tableOf [(0, 9, 12, 21)] := vx_table (x := yL_adjective) B (hts (.codeWith yL_adjective cL_adjective 4 (some .int) [(0, 9, 12, 21)]) List.mem_cons_self)
  have hl := lv_entry ([.ref (ad 0), .int x1, .ref (ad 89)]) (n := 4) (Nat.le_of_ble_eq_true rfl)
  rw [lg_entry_eq]
  generalize (lg_sl ([.ref (ad 0), .int x1, .ref (ad 89)]) ++ List.replicate (4 - (lg_sl ([.ref (ad 0), .int x1, .ref (ad 89)])).length) Slot.unset).toArray = ls at hl ⊢
  have hl : lv_has ls 4 [(0, .ref (ad 0)), (1, .int x1), (2, .ref (ad 89))] := hl
  clear hB0
  unfold sL_adjective at hs
  refine g_bind hs (fun q hq hs => ?_)
  refine lv_aload_n hx hb dL_adjective_0 rfl (lv_at hl 2 rfl) ?_
  refine lv_iconst (v := 0) hx hb dL_adjective_1 (by decide) ?_
  refine lv_aload_n hx hb dL_adjective_2 rfl (lv_at hl 0 rfl) ?_
  refine lv_iload_n hx hb dL_adjective_3 rfl (lv_at hl 1 rfl) ?_
  refine gCX_i (As := [.int x1]) (rest := [.int 0, .ref (ad 89)]) ⟨hx, hb, hml, hown, hts⟩ (cX5_adjective_c l hst D cy ad tL z0 hI v u x1 q hq) (cwV 1 hts gL_adjective_X5_adjective rfl rfl rfl (by decide +kernel) ⟨Nat.le_of_ble_eq_true rfl, Nat.le_of_ble_eq_true rfl⟩) hK hP hS (va_recv hK.1 hP (ci := 5) (q0 := 0) rfl (gW_5 kd0)) hl.1 rfl rfl (Nat.le_of_ble_eq_true rfl) dL_adjective_4 ⟨Nat.le_of_ble_eq_true rfl, Nat.le_of_ble_eq_true rfl⟩ (fun i H locs q9 ce eo hP hS hce hcv hcl => ?_) (fun r H locs eo hP hS => ?_)
  · rw [eo] at hs
    have hs := gOut_l hs
    by_cases h0 : i = 2
    · have hs := g_t hs h0
      subst h0
      refine vx_catch (own := RL) (name := "java/lang/IndexOutOfBoundsException") (E := "java/lang/IndexOutOfBoundsException") hown [] ⟨0, 9, 12, 21⟩ [] htab (fun z hz => absurd hz List.not_mem_nil) (by decide) (by decide) (hts (.classLink RL 21 "java/lang/IndexOutOfBoundsException") (by decide +kernel)) (va_Nw.use rfl (hK.2.2.2.2.2.2.1 _ (List.mem_of_getElem? (i := 2) rfl))) hce hcv hcl ?_
      refine lv_astore_n (lv' := [(3, .ref q9), (0, .ref (ad 0)), (1, .int x1), (2, .ref (ad 89))]) hx hb dL_adjective_12 rfl hl (by decide) rfl (fun ls hl => ?_)
      refine lv_iconst (v := 1) hx hb dL_adjective_13 (by decide) ?_
      exact gRet_w hx hb hr hlocks hK hP hS (g_some3 hs) dL_adjective_14
    · have hs := g_f hs h0
      exact g_none (g_f hs h0)
  · rw [eo] at hs
    have hs := gOut_r hs
    refine lv_i2l hx hb dL_adjective_7 rfl ?_
    refine gLast hx hb hI hK hP hS dL_adjective_8 (fun H locs hP hS => ?_)
    refine lv_goto (tgt := 15) hx hb dL_adjective_9 (by decide) ?_
    refine lv_iconst (v := 0) hx hb dL_adjective_15 (by decide) ?_
    exact gRet_w hx hb hr hlocks hK hP hS (g_some3 hs) dL_adjective_16
set_option maxHeartbeats 4000000 in
set_option maxRecDepth 100000 in
theorem cL_place_c (l : Launch) (hst : l.stackTraces = false) (D : va_G) (cy : Nat → ClassId) (ad : Nat → Nat) (tL z0 : Nat) (hI : gI z0 ad) (v : gV) (u : Int64) (x1 : Int32) (r0 : Int32) (v1 : gV) (u1 : Int64) (hs : sL_place v u x1 = some (r0, v1, u1)) : Met l yL_place wsL_place ({ frames := 7, cells := 1, slots := 6, locals := 111 } : Room) (gPc D cy ad tL z0 v u [.ref (ad 0), .int x1, .ref (ad 89)]) (gQi D cy ad tL z0 v1 u1 r0) 1 6 (gA z0) := by
  refine va_MetW (cc := cL_place) (maxL := 4) (ret := (some .int)) (hh := [(0, 9, 12, 21)]) (by decide) rfl ?_
  intro p e s m args below meth c s₁ B hml hv
  obtain ⟨rfl, hB0⟩ := hv
  have hP : va_P D vwCl (gW cy ad v u) s.heap := hB0.1
  have hK : gK D cy tL z0 s s.heap := hB0.2
  have hx := B.exec
  have hb := B.bytes
  have hr := B.returns
  have hts := atoms_spec (ws := wsL_place) B.pre
  have hown : s.vm.findClass RL = some m.cls := findClass_of_methodNamed B.named
  have hlocks := B.notSynchronized
  have hS : va_S (gA z0) s.heap s.heap [] := va_S.rf
  have htab : c.exceptionTable.toList = tableOf [(0, 9, 12, 21)] := vx_table (x := yL_place) B (hts (.codeWith yL_place cL_place 4 (some .int) [(0, 9, 12, 21)]) List.mem_cons_self)
  have hl := lv_entry ([.ref (ad 0), .int x1, .ref (ad 89)]) (n := 4) (Nat.le_of_ble_eq_true rfl)
  rw [lg_entry_eq]
  generalize (lg_sl ([.ref (ad 0), .int x1, .ref (ad 89)]) ++ List.replicate (4 - (lg_sl ([.ref (ad 0), .int x1, .ref (ad 89)])).length) Slot.unset).toArray = ls at hl ⊢
  have hl : lv_has ls 4 [(0, .ref (ad 0)), (1, .int x1), (2, .ref (ad 89))] := hl
  clear hB0
  unfold sL_place at hs
  refine g_bind hs (fun q hq hs => ?_)
  refine lv_aload_n hx hb dL_place_0 rfl (lv_at hl 2 rfl) ?_
  refine lv_iconst (v := 0) hx hb dL_place_1 (by decide) ?_
  refine lv_aload_n hx hb dL_place_2 rfl (lv_at hl 0 rfl) ?_
  refine lv_iload_n hx hb dL_place_3 rfl (lv_at hl 1 rfl) ?_
  refine gCX_i (As := [.int x1]) (rest := [.int 0, .ref (ad 89)]) ⟨hx, hb, hml, hown, hts⟩ (cX5_place_c l hst D cy ad tL z0 hI v u x1 q hq) (cwV 1 hts gL_place_X5_place rfl rfl rfl (by decide +kernel) ⟨Nat.le_of_ble_eq_true rfl, Nat.le_of_ble_eq_true rfl⟩) hK hP hS (va_recv hK.1 hP (ci := 5) (q0 := 0) rfl (gW_5 kd0)) hl.1 rfl rfl (Nat.le_of_ble_eq_true rfl) dL_place_4 ⟨Nat.le_of_ble_eq_true rfl, Nat.le_of_ble_eq_true rfl⟩ (fun i H locs q9 ce eo hP hS hce hcv hcl => ?_) (fun r H locs eo hP hS => ?_)
  · rw [eo] at hs
    have hs := gOut_l hs
    by_cases h0 : i = 2
    · have hs := g_t hs h0
      subst h0
      refine vx_catch (own := RL) (name := "java/lang/IndexOutOfBoundsException") (E := "java/lang/IndexOutOfBoundsException") hown [] ⟨0, 9, 12, 21⟩ [] htab (fun z hz => absurd hz List.not_mem_nil) (by decide) (by decide) (hts (.classLink RL 21 "java/lang/IndexOutOfBoundsException") (by decide +kernel)) (va_Nw.use rfl (hK.2.2.2.2.2.2.1 _ (List.mem_of_getElem? (i := 2) rfl))) hce hcv hcl ?_
      refine lv_astore_n (lv' := [(3, .ref q9), (0, .ref (ad 0)), (1, .int x1), (2, .ref (ad 89))]) hx hb dL_place_12 rfl hl (by decide) rfl (fun ls hl => ?_)
      refine lv_iconst (v := 1) hx hb dL_place_13 (by decide) ?_
      exact gRet_w hx hb hr hlocks hK hP hS (g_some3 hs) dL_place_14
    · have hs := g_f hs h0
      exact g_none (g_f hs h0)
  · rw [eo] at hs
    have hs := gOut_r hs
    refine lv_i2l hx hb dL_place_7 rfl ?_
    refine gLast hx hb hI hK hP hS dL_place_8 (fun H locs hP hS => ?_)
    refine lv_goto (tgt := 15) hx hb dL_place_9 (by decide) ?_
    refine lv_iconst (v := 0) hx hb dL_place_15 (by decide) ?_
    exact gRet_w hx hb hr hlocks hK hP hS (g_some3 hs) dL_place_16
set_option maxHeartbeats 4000000 in
set_option maxRecDepth 100000 in
theorem cL_isOpen_c (l : Launch) (hst : l.stackTraces = false) (D : va_G) (cy : Nat → ClassId) (ad : Nat → Nat) (tL z0 : Nat) (hI : gI z0 ad) (v : gV) (u : Int64) (x1 : Int32) (r0 : Int32) (v1 : gV) (u1 : Int64) (hs : sL_isOpen v u x1 = some (r0, v1, u1)) : Met l yL_isOpen wsL_isOpen ({ frames := 7, cells := 1, slots := 6, locals := 111 } : Room) (gPc D cy ad tL z0 v u [.ref (ad 0), .int x1, .ref (ad 89)]) (gQi D cy ad tL z0 v1 u1 r0) 1 6 (gA z0) := by
  refine va_MetW (cc := cL_isOpen) (maxL := 4) (ret := (some .int)) (hh := [(0, 16, 19, 21)]) (by decide) rfl ?_
  intro p e s m args below meth c s₁ B hml hv
  obtain ⟨rfl, hB0⟩ := hv
  have hP : va_P D vwCl (gW cy ad v u) s.heap := hB0.1
  have hK : gK D cy tL z0 s s.heap := hB0.2
  have hx := B.exec
  have hb := B.bytes
  have hr := B.returns
  have hts := atoms_spec (ws := wsL_isOpen) B.pre
  have hown : s.vm.findClass RL = some m.cls := findClass_of_methodNamed B.named
  have hlocks := B.notSynchronized
  have hS : va_S (gA z0) s.heap s.heap [] := va_S.rf
  have htab : c.exceptionTable.toList = tableOf [(0, 16, 19, 21)] := vx_table (x := yL_isOpen) B (hts (.codeWith yL_isOpen cL_isOpen 4 (some .int) [(0, 16, 19, 21)]) List.mem_cons_self)
  have hl := lv_entry ([.ref (ad 0), .int x1, .ref (ad 89)]) (n := 4) (Nat.le_of_ble_eq_true rfl)
  rw [lg_entry_eq]
  generalize (lg_sl ([.ref (ad 0), .int x1, .ref (ad 89)]) ++ List.replicate (4 - (lg_sl ([.ref (ad 0), .int x1, .ref (ad 89)])).length) Slot.unset).toArray = ls at hl ⊢
  have hl : lv_has ls 4 [(0, .ref (ad 0)), (1, .int x1), (2, .ref (ad 89))] := hl
  clear hB0
  unfold sL_isOpen at hs
  refine g_bind hs (fun q hq hs => ?_)
  refine lv_aload_n hx hb dL_isOpen_0 rfl (lv_at hl 2 rfl) ?_
  refine lv_iconst (v := 0) hx hb dL_isOpen_1 (by decide) ?_
  refine lv_aload_n hx hb dL_isOpen_2 rfl (lv_at hl 0 rfl) ?_
  refine lv_iload_n hx hb dL_isOpen_3 rfl (lv_at hl 1 rfl) ?_
  refine gCX_i (As := [.int x1]) (rest := [.int 0, .ref (ad 89)]) ⟨hx, hb, hml, hown, hts⟩ (cX5_isOpen_c l hst D cy ad tL z0 hI v u x1 q hq) (cwV 1 hts gL_isOpen_X5_isOpen rfl rfl rfl (by decide +kernel) ⟨Nat.le_of_ble_eq_true rfl, Nat.le_of_ble_eq_true rfl⟩) hK hP hS (va_recv hK.1 hP (ci := 5) (q0 := 0) rfl (gW_5 kd0)) hl.1 rfl rfl (Nat.le_of_ble_eq_true rfl) dL_isOpen_4 ⟨Nat.le_of_ble_eq_true rfl, Nat.le_of_ble_eq_true rfl⟩ (fun i H locs q9 ce eo hP hS hce hcv hcl => ?_) (fun r H locs eo hP hS => ?_)
  · rw [eo] at hs
    have hs := gOutZ_l hs
    by_cases h0 : i = 2
    · have hs := g_t hs h0
      subst h0
      refine vx_catch (own := RL) (name := "java/lang/IndexOutOfBoundsException") (E := "java/lang/IndexOutOfBoundsException") hown [] ⟨0, 16, 19, 21⟩ [] htab (fun z hz => absurd hz List.not_mem_nil) (by decide) (by decide) (hts (.classLink RL 21 "java/lang/IndexOutOfBoundsException") (by decide +kernel)) (va_Nw.use rfl (hK.2.2.2.2.2.2.1 _ (List.mem_of_getElem? (i := 2) rfl))) hce hcv hcl ?_
      refine lv_astore_n (lv' := [(3, .ref q9), (0, .ref (ad 0)), (1, .int x1), (2, .ref (ad 89))]) hx hb dL_isOpen_19 rfl hl (by decide) rfl (fun ls hl => ?_)
      refine lv_iconst (v := 1) hx hb dL_isOpen_20 (by decide) ?_
      exact gRet_w hx hb hr hlocks hK hP hS (g_some3 hs) dL_isOpen_21
    · have hs := g_f hs h0
      exact g_none (g_f hs h0)
  · rw [eo] at hs
    have hs := gOutZ_r hs
    refine lv_if_eq (tgt := 14) hx hb dL_isOpen_7 (by decide) (fun hc => ?_) (fun hc => ?_)
    · rw [if_pos hc] at hs
      refine lv_lconst (v := 0) hx hb dL_isOpen_14 (by decide) ?_
      refine gLast hx hb hI hK hP hS dL_isOpen_15 (fun H locs hP hS => ?_)
      refine lv_goto (tgt := 22) hx hb dL_isOpen_16 (by decide) ?_
      refine lv_iconst (v := 0) hx hb dL_isOpen_22 (by decide) ?_
      exact gRet_w hx hb hr hlocks hK hP hS (g_some3 hs) dL_isOpen_23
    · rw [if_neg hc] at hs
      refine lv_lconst (v := 1) hx hb dL_isOpen_10 (by decide) ?_
      refine lv_goto (tgt := 15) hx hb dL_isOpen_11 (by decide) ?_
      refine gLast hx hb hI hK hP hS dL_isOpen_15 (fun H locs hP hS => ?_)
      refine lv_goto (tgt := 22) hx hb dL_isOpen_16 (by decide) ?_
      refine lv_iconst (v := 0) hx hb dL_isOpen_22 (by decide) ?_
      exact gRet_w hx hb hr hlocks hK hP hS (g_some3 hs) dL_isOpen_23
set_option maxHeartbeats 4000000 in
set_option maxRecDepth 100000 in
theorem cL_objectsAt_c (l : Launch) (hst : l.stackTraces = false) (D : va_G) (cy : Nat → ClassId) (ad : Nat → Nat) (tL z0 : Nat) (hI : gI z0 ad) (n : Nat) (v : gV) (u : Int64) (x1 : Int32) (r0 : Int32) (v1 : gV) (u1 : Int64) (hs : sL_objectsAt n v u x1 = some (r0, v1, u1)) : Met l yL_objectsAt wsL_objectsAt ({ frames := 7, cells := 1, slots := 6, locals := 111 } : Room) (gPc D cy ad tL z0 v u [.ref (ad 0), .int x1, .ref (ad 89)]) (gQi D cy ad tL z0 v1 u1 r0) 1 6 (gA z0) := by
  refine va_MetW (cc := cL_objectsAt) (maxL := 4) (ret := (some .int)) (hh := [(0, 9, 12, 21)]) (by decide) rfl ?_
  intro p e s m args below meth c s₁ B hml hv
  obtain ⟨rfl, hB0⟩ := hv
  have hP : va_P D vwCl (gW cy ad v u) s.heap := hB0.1
  have hK : gK D cy tL z0 s s.heap := hB0.2
  have hx := B.exec
  have hb := B.bytes
  have hr := B.returns
  have hts := atoms_spec (ws := wsL_objectsAt) B.pre
  have hown : s.vm.findClass RL = some m.cls := findClass_of_methodNamed B.named
  have hlocks := B.notSynchronized
  have hS : va_S (gA z0) s.heap s.heap [] := va_S.rf
  have htab : c.exceptionTable.toList = tableOf [(0, 9, 12, 21)] := vx_table (x := yL_objectsAt) B (hts (.codeWith yL_objectsAt cL_objectsAt 4 (some .int) [(0, 9, 12, 21)]) List.mem_cons_self)
  have hl := lv_entry ([.ref (ad 0), .int x1, .ref (ad 89)]) (n := 4) (Nat.le_of_ble_eq_true rfl)
  rw [lg_entry_eq]
  generalize (lg_sl ([.ref (ad 0), .int x1, .ref (ad 89)]) ++ List.replicate (4 - (lg_sl ([.ref (ad 0), .int x1, .ref (ad 89)])).length) Slot.unset).toArray = ls at hl ⊢
  have hl : lv_has ls 4 [(0, .ref (ad 0)), (1, .int x1), (2, .ref (ad 89))] := hl
  clear hB0
  unfold sL_objectsAt at hs
  refine g_bind hs (fun q hq hs => ?_)
  refine lv_aload_n hx hb dL_objectsAt_0 rfl (lv_at hl 2 rfl) ?_
  refine lv_iconst (v := 0) hx hb dL_objectsAt_1 (by decide) ?_
  refine lv_aload_n hx hb dL_objectsAt_2 rfl (lv_at hl 0 rfl) ?_
  refine lv_iload_n hx hb dL_objectsAt_3 rfl (lv_at hl 1 rfl) ?_
  refine gCX_i (As := [.int x1]) (rest := [.int 0, .ref (ad 89)]) ⟨hx, hb, hml, hown, hts⟩ (cX5_objectsAt_c l hst D cy ad tL z0 hI n v u x1 q hq) (cwV 1 hts gL_objectsAt_X5_objectsAt rfl rfl rfl (by decide +kernel) ⟨Nat.le_of_ble_eq_true rfl, Nat.le_of_ble_eq_true rfl⟩) hK hP hS (va_recv hK.1 hP (ci := 5) (q0 := 0) rfl (gW_5 kd0)) hl.1 rfl rfl (Nat.le_of_ble_eq_true rfl) dL_objectsAt_4 ⟨Nat.le_of_ble_eq_true rfl, Nat.le_of_ble_eq_true rfl⟩ (fun i H locs q9 ce eo hP hS hce hcv hcl => ?_) (fun r H locs eo hP hS => ?_)
  · rw [eo] at hs
    have hs := gOut_l hs
    by_cases h0 : i = 2
    · have hs := g_t hs h0
      subst h0
      refine vx_catch (own := RL) (name := "java/lang/IndexOutOfBoundsException") (E := "java/lang/IndexOutOfBoundsException") hown [] ⟨0, 9, 12, 21⟩ [] htab (fun z hz => absurd hz List.not_mem_nil) (by decide) (by decide) (hts (.classLink RL 21 "java/lang/IndexOutOfBoundsException") (by decide +kernel)) (va_Nw.use rfl (hK.2.2.2.2.2.2.1 _ (List.mem_of_getElem? (i := 2) rfl))) hce hcv hcl ?_
      refine lv_astore_n (lv' := [(3, .ref q9), (0, .ref (ad 0)), (1, .int x1), (2, .ref (ad 89))]) hx hb dL_objectsAt_12 rfl hl (by decide) rfl (fun ls hl => ?_)
      refine lv_iconst (v := 1) hx hb dL_objectsAt_13 (by decide) ?_
      exact gRet_w hx hb hr hlocks hK hP hS (g_some3 hs) dL_objectsAt_14
    · have hs := g_f hs h0
      exact g_none (g_f hs h0)
  · rw [eo] at hs
    have hs := gOut_r hs
    refine lv_i2l hx hb dL_objectsAt_7 rfl ?_
    refine gLast hx hb hI hK hP hS dL_objectsAt_8 (fun H locs hP hS => ?_)
    refine lv_goto (tgt := 15) hx hb dL_objectsAt_9 (by decide) ?_
    refine lv_iconst (v := 0) hx hb dL_objectsAt_15 (by decide) ?_
    exact gRet_w hx hb hr hlocks hK hP hS (g_some3 hs) dL_objectsAt_16
set_option maxHeartbeats 4000000 in
set_option maxRecDepth 100000 in
theorem cL_suitable_c (l : Launch) (hst : l.stackTraces = false) (D : va_G) (cy : Nat → ClassId) (ad : Nat → Nat) (tL z0 : Nat) (hI : gI z0 ad) (n : Nat) (v : gV) (u : Int64) (x1 : Int32) (r0 : Int32) (v1 : gV) (u1 : Int64) (hs : sL_suitable n v u x1 = some (r0, v1, u1)) : Met l yL_suitable wsL_suitable ({ frames := 7, cells := 1, slots := 6, locals := 111 } : Room) (gPc D cy ad tL z0 v u [.ref (ad 0), .int x1, .ref (ad 89)]) (gQi D cy ad tL z0 v1 u1 r0) 1 6 (gA z0) := by
  refine va_MetW (cc := cL_suitable) (maxL := 4) (ret := (some .int)) (hh := [(0, 9, 12, 21)]) (by decide) rfl ?_
  intro p e s m args below meth c s₁ B hml hv
  obtain ⟨rfl, hB0⟩ := hv
  have hP : va_P D vwCl (gW cy ad v u) s.heap := hB0.1
  have hK : gK D cy tL z0 s s.heap := hB0.2
  have hx := B.exec
  have hb := B.bytes
  have hr := B.returns
  have hts := atoms_spec (ws := wsL_suitable) B.pre
  have hown : s.vm.findClass RL = some m.cls := findClass_of_methodNamed B.named
  have hlocks := B.notSynchronized
  have hS : va_S (gA z0) s.heap s.heap [] := va_S.rf
  have htab : c.exceptionTable.toList = tableOf [(0, 9, 12, 21)] := vx_table (x := yL_suitable) B (hts (.codeWith yL_suitable cL_suitable 4 (some .int) [(0, 9, 12, 21)]) List.mem_cons_self)
  have hl := lv_entry ([.ref (ad 0), .int x1, .ref (ad 89)]) (n := 4) (Nat.le_of_ble_eq_true rfl)
  rw [lg_entry_eq]
  generalize (lg_sl ([.ref (ad 0), .int x1, .ref (ad 89)]) ++ List.replicate (4 - (lg_sl ([.ref (ad 0), .int x1, .ref (ad 89)])).length) Slot.unset).toArray = ls at hl ⊢
  have hl : lv_has ls 4 [(0, .ref (ad 0)), (1, .int x1), (2, .ref (ad 89))] := hl
  clear hB0
  unfold sL_suitable at hs
  refine g_bind hs (fun q hq hs => ?_)
  refine lv_aload_n hx hb dL_suitable_0 rfl (lv_at hl 2 rfl) ?_
  refine lv_iconst (v := 0) hx hb dL_suitable_1 (by decide) ?_
  refine lv_aload_n hx hb dL_suitable_2 rfl (lv_at hl 0 rfl) ?_
  refine lv_iload_n hx hb dL_suitable_3 rfl (lv_at hl 1 rfl) ?_
  refine gCX_i (As := [.int x1]) (rest := [.int 0, .ref (ad 89)]) ⟨hx, hb, hml, hown, hts⟩ (cX5_suitable_c l hst D cy ad tL z0 hI n v u x1 q hq) (cwV 1 hts gL_suitable_X5_suitable rfl rfl rfl (by decide +kernel) ⟨Nat.le_of_ble_eq_true rfl, Nat.le_of_ble_eq_true rfl⟩) hK hP hS (va_recv hK.1 hP (ci := 5) (q0 := 0) rfl (gW_5 kd0)) hl.1 rfl rfl (Nat.le_of_ble_eq_true rfl) dL_suitable_4 ⟨Nat.le_of_ble_eq_true rfl, Nat.le_of_ble_eq_true rfl⟩ (fun i H locs q9 ce eo hP hS hce hcv hcl => ?_) (fun r H locs eo hP hS => ?_)
  · rw [eo] at hs
    have hs := gOut_l hs
    by_cases h0 : i = 2
    · have hs := g_t hs h0
      subst h0
      refine vx_catch (own := RL) (name := "java/lang/IndexOutOfBoundsException") (E := "java/lang/IndexOutOfBoundsException") hown [] ⟨0, 9, 12, 21⟩ [] htab (fun z hz => absurd hz List.not_mem_nil) (by decide) (by decide) (hts (.classLink RL 21 "java/lang/IndexOutOfBoundsException") (by decide +kernel)) (va_Nw.use rfl (hK.2.2.2.2.2.2.1 _ (List.mem_of_getElem? (i := 2) rfl))) hce hcv hcl ?_
      refine lv_astore_n (lv' := [(3, .ref q9), (0, .ref (ad 0)), (1, .int x1), (2, .ref (ad 89))]) hx hb dL_suitable_12 rfl hl (by decide) rfl (fun ls hl => ?_)
      refine lv_iconst (v := 1) hx hb dL_suitable_13 (by decide) ?_
      exact gRet_w hx hb hr hlocks hK hP hS (g_some3 hs) dL_suitable_14
    · have hs := g_f hs h0
      exact g_none (g_f hs h0)
  · rw [eo] at hs
    have hs := gOut_r hs
    refine lv_i2l hx hb dL_suitable_7 rfl ?_
    refine gLast hx hb hI hK hP hS dL_suitable_8 (fun H locs hP hS => ?_)
    refine lv_goto (tgt := 15) hx hb dL_suitable_9 (by decide) ?_
    refine lv_iconst (v := 0) hx hb dL_suitable_15 (by decide) ?_
    exact gRet_w hx hb hr hlocks hK hP hS (g_some3 hs) dL_suitable_16
set_option maxHeartbeats 4000000 in
set_option maxRecDepth 100000 in
theorem cL_fitting_c (l : Launch) (hst : l.stackTraces = false) (D : va_G) (cy : Nat → ClassId) (ad : Nat → Nat) (tL z0 : Nat) (hI : gI z0 ad) (n : Nat) (v : gV) (u : Int64) (x1 : Int32) (x2 : Int32) (r0 : Int32) (v1 : gV) (u1 : Int64) (hs : sL_fitting n v u x1 x2 = some (r0, v1, u1)) : Met l yL_fitting wsL_fitting ({ frames := 7, cells := 1, slots := 6, locals := 112 } : Room) (gPc D cy ad tL z0 v u [.ref (ad 0), .int x1, .int x2, .ref (ad 89)]) (gQi D cy ad tL z0 v1 u1 r0) 1 6 (gA z0) := by
  refine va_MetW (cc := cL_fitting) (maxL := 5) (ret := (some .int)) (hh := [(0, 10, 13, 21)]) (by decide) rfl ?_
  intro p e s m args below meth c s₁ B hml hv
  obtain ⟨rfl, hB0⟩ := hv
  have hP : va_P D vwCl (gW cy ad v u) s.heap := hB0.1
  have hK : gK D cy tL z0 s s.heap := hB0.2
  have hx := B.exec
  have hb := B.bytes
  have hr := B.returns
  have hts := atoms_spec (ws := wsL_fitting) B.pre
  have hown : s.vm.findClass RL = some m.cls := findClass_of_methodNamed B.named
  have hlocks := B.notSynchronized
  have hS : va_S (gA z0) s.heap s.heap [] := va_S.rf
  have htab : c.exceptionTable.toList = tableOf [(0, 10, 13, 21)] := vx_table (x := yL_fitting) B (hts (.codeWith yL_fitting cL_fitting 5 (some .int) [(0, 10, 13, 21)]) List.mem_cons_self)
  have hl := lv_entry ([.ref (ad 0), .int x1, .int x2, .ref (ad 89)]) (n := 5) (Nat.le_of_ble_eq_true rfl)
  rw [lg_entry_eq]
  generalize (lg_sl ([.ref (ad 0), .int x1, .int x2, .ref (ad 89)]) ++ List.replicate (5 - (lg_sl ([.ref (ad 0), .int x1, .int x2, .ref (ad 89)])).length) Slot.unset).toArray = ls at hl ⊢
  have hl : lv_has ls 5 [(0, .ref (ad 0)), (1, .int x1), (2, .int x2), (3, .ref (ad 89))] := hl
  clear hB0
  unfold sL_fitting at hs
  refine g_bind hs (fun q hq hs => ?_)
  refine lv_aload_n hx hb dL_fitting_0 rfl (lv_at hl 3 rfl) ?_
  refine lv_iconst (v := 0) hx hb dL_fitting_1 (by decide) ?_
  refine lv_aload_n hx hb dL_fitting_2 rfl (lv_at hl 0 rfl) ?_
  refine lv_iload_n hx hb dL_fitting_3 rfl (lv_at hl 1 rfl) ?_
  refine lv_iload_n hx hb dL_fitting_4 rfl (lv_at hl 2 rfl) ?_
  refine gCX_i (As := [.int x1, .int x2]) (rest := [.int 0, .ref (ad 89)]) ⟨hx, hb, hml, hown, hts⟩ (cX5_fitting_c l hst D cy ad tL z0 hI n v u x1 x2 q hq) (cwV 2 hts gL_fitting_X5_fitting rfl rfl rfl (by decide +kernel) ⟨Nat.le_of_ble_eq_true rfl, Nat.le_of_ble_eq_true rfl⟩) hK hP hS (va_recv hK.1 hP (ci := 5) (q0 := 0) rfl (gW_5 kd0)) hl.1 rfl rfl (Nat.le_of_ble_eq_true rfl) dL_fitting_5 ⟨Nat.le_of_ble_eq_true rfl, Nat.le_of_ble_eq_true rfl⟩ (fun i H locs q9 ce eo hP hS hce hcv hcl => ?_) (fun r H locs eo hP hS => ?_)
  · rw [eo] at hs
    have hs := gOut_l hs
    by_cases h0 : i = 2
    · have hs := g_t hs h0
      subst h0
      refine vx_catch (own := RL) (name := "java/lang/IndexOutOfBoundsException") (E := "java/lang/IndexOutOfBoundsException") hown [] ⟨0, 10, 13, 21⟩ [] htab (fun z hz => absurd hz List.not_mem_nil) (by decide) (by decide) (hts (.classLink RL 21 "java/lang/IndexOutOfBoundsException") (by decide +kernel)) (va_Nw.use rfl (hK.2.2.2.2.2.2.1 _ (List.mem_of_getElem? (i := 2) rfl))) hce hcv hcl ?_
      refine lv_astore (lv' := [(4, .ref q9), (0, .ref (ad 0)), (1, .int x1), (2, .int x2), (3, .ref (ad 89))]) hx hb dL_fitting_13 hl (by decide) rfl (fun ls hl => ?_)
      refine lv_iconst (v := 1) hx hb dL_fitting_15 (by decide) ?_
      exact gRet_w hx hb hr hlocks hK hP hS (g_some3 hs) dL_fitting_16
    · have hs := g_f hs h0
      exact g_none (g_f hs h0)
  · rw [eo] at hs
    have hs := gOut_r hs
    refine lv_i2l hx hb dL_fitting_8 rfl ?_
    refine gLast hx hb hI hK hP hS dL_fitting_9 (fun H locs hP hS => ?_)
    refine lv_goto (tgt := 17) hx hb dL_fitting_10 (by decide) ?_
    refine lv_iconst (v := 0) hx hb dL_fitting_17 (by decide) ?_
    exact gRet_w hx hb hr hlocks hK hP hS (g_some3 hs) dL_fitting_18
set_option maxHeartbeats 4000000 in
set_option maxRecDepth 100000 in
theorem cL_append_c (l : Launch) (hst : l.stackTraces = false) (D : va_G) (cy : Nat → ClassId) (ad : Nat → Nat) (tL z0 : Nat) (hI : gI z0 ad) (v : gV) (u : Int64) (x1 : Int32) (r0 : Int32) (v1 : gV) (u1 : Int64) (hs : sL_append v u x1 = some (r0, v1, u1)) : Met l yL_append wsL_append ({ frames := 7, cells := 1, slots := 6, locals := 111 } : Room) (gPc D cy ad tL z0 v u [.ref (ad 0), .int x1, .ref (ad 89)]) (gQi D cy ad tL z0 v1 u1 r0) 1 6 (gA z0) := by
  refine va_MetW (cc := cL_append) (maxL := 4) (ret := (some .int)) (hh := [(0, 9, 12, 13), (0, 9, 15, 15)]) (by decide) rfl ?_
  intro p e s m args below meth c s₁ B hml hv
  obtain ⟨rfl, hB0⟩ := hv
  have hP : va_P D vwCl (gW cy ad v u) s.heap := hB0.1
  have hK : gK D cy tL z0 s s.heap := hB0.2
  have hx := B.exec
  have hb := B.bytes
  have hr := B.returns
  have hts := atoms_spec (ws := wsL_append) B.pre
  have hown : s.vm.findClass RL = some m.cls := findClass_of_methodNamed B.named
  have hlocks := B.notSynchronized
  have hS : va_S (gA z0) s.heap s.heap [] := va_S.rf
  have htab : c.exceptionTable.toList = tableOf [(0, 9, 12, 13), (0, 9, 15, 15)] := vx_table (x := yL_append) B (hts (.codeWith yL_append cL_append 4 (some .int) [(0, 9, 12, 13), (0, 9, 15, 15)]) List.mem_cons_self)
  have hl := lv_entry ([.ref (ad 0), .int x1, .ref (ad 89)]) (n := 4) (Nat.le_of_ble_eq_true rfl)
  rw [lg_entry_eq]
  generalize (lg_sl ([.ref (ad 0), .int x1, .ref (ad 89)]) ++ List.replicate (4 - (lg_sl ([.ref (ad 0), .int x1, .ref (ad 89)])).length) Slot.unset).toArray = ls at hl ⊢
  have hl : lv_has ls 4 [(0, .ref (ad 0)), (1, .int x1), (2, .ref (ad 89))] := hl
  clear hB0
  unfold sL_append at hs
  refine g_bind hs (fun q hq hs => ?_)
  refine lv_aload_n hx hb dL_append_0 rfl (lv_at hl 2 rfl) ?_
  refine lv_iconst (v := 0) hx hb dL_append_1 (by decide) ?_
  refine lv_aload_n hx hb dL_append_2 rfl (lv_at hl 0 rfl) ?_
  refine lv_iload_n hx hb dL_append_3 rfl (lv_at hl 1 rfl) ?_
  refine gCX_i (As := [.int x1]) (rest := [.int 0, .ref (ad 89)]) ⟨hx, hb, hml, hown, hts⟩ (cX5_append_c l hst D cy ad tL z0 hI v u x1 q.1 q.2 hq) (cwV 1 hts gL_append_X5_append rfl rfl rfl (by decide +kernel) ⟨Nat.le_of_ble_eq_true rfl, Nat.le_of_ble_eq_true rfl⟩) hK hP hS (va_recv hK.1 hP (ci := 5) (q0 := 0) rfl (gW_5 kd0)) hl.1 rfl rfl (Nat.le_of_ble_eq_true rfl) dL_append_4 ⟨Nat.le_of_ble_eq_true rfl, Nat.le_of_ble_eq_true rfl⟩ (fun i H locs q9 ce eo hP hS hce hcv hcl => ?_) (fun r H locs eo hP hS => ?_)
  · rw [eo] at hs
    have hs := gOut_l hs
    by_cases h0 : i = 0
    · have hs := g_t hs h0
      subst h0
      refine vx_catch (own := RL) (name := "java/lang/IllegalArgumentException") (E := "java/lang/IllegalArgumentException") hown [] ⟨0, 9, 12, 13⟩ [⟨0, 9, 15, 15⟩] htab (fun z hz => absurd hz List.not_mem_nil) (by decide) (by decide) (hts (.classLink RL 13 "java/lang/IllegalArgumentException") (by decide +kernel)) (va_Nw.use rfl (hK.2.2.2.2.2.2.1 _ (List.mem_of_getElem? (i := 0) rfl))) hce hcv hcl ?_
      refine lv_astore_n (lv' := [(3, .ref q9), (0, .ref (ad 0)), (1, .int x1), (2, .ref (ad 89))]) hx hb dL_append_12 rfl hl (by decide) rfl (fun ls hl => ?_)
      refine lv_iconst (v := 1) hx hb dL_append_13 (by decide) ?_
      exact gRet_w hx hb hr hlocks hK hP hS (g_some3 hs) dL_append_14
    · have hs := g_f hs h0
      by_cases h1 : i = 1
      · have hs := g_t hs h1
        subst h1
        refine vx_catch (own := RL) (name := "java/lang/IllegalStateException") (E := "java/lang/IllegalStateException") hown [⟨0, 9, 12, 13⟩] ⟨0, 9, 15, 15⟩ [] htab (fun z hz => by cases List.mem_singleton.mp hz; exact Or.inr ⟨by decide, "java/lang/IllegalArgumentException", hts (.classLink RL 13 "java/lang/IllegalArgumentException") (by decide +kernel), hK.2.2.2.2.2.2.2.1⟩) (by decide) (by decide) (hts (.classLink RL 15 "java/lang/IllegalStateException") (by decide +kernel)) (va_Nw.use rfl (hK.2.2.2.2.2.2.1 _ (List.mem_of_getElem? (i := 1) rfl))) hce hcv hcl ?_
        refine lv_astore_n (lv' := [(3, .ref q9), (0, .ref (ad 0)), (1, .int x1), (2, .ref (ad 89))]) hx hb dL_append_15 rfl hl (by decide) rfl (fun ls hl => ?_)
        refine lv_iconst (v := 2) hx hb dL_append_16 (by decide) ?_
        exact gRet_w hx hb hr hlocks hK hP hS (g_some3 hs) dL_append_17
      · exact g_none (g_f hs h1)
  · rw [eo] at hs
    have hs := gOut_r hs
    refine lv_i2l hx hb dL_append_7 rfl ?_
    refine gLast hx hb hI hK hP hS dL_append_8 (fun H locs hP hS => ?_)
    refine lv_goto (tgt := 18) hx hb dL_append_9 (by decide) ?_
    refine lv_iconst (v := 0) hx hb dL_append_18 (by decide) ?_
    exact gRet_w hx hb hr hlocks hK hP hS (g_some3 hs) dL_append_19
set_option maxHeartbeats 4000000 in
set_option maxRecDepth 100000 in
theorem cL_appendWord_c (l : Launch) (hst : l.stackTraces = false) (D : va_G) (cy : Nat → ClassId) (ad : Nat → Nat) (tL z0 : Nat) (hI : gI z0 ad) (n : Nat) (v : gV) (u : Int64) (x1 : Int32) (r0 : Int32) (v1 : gV) (u1 : Int64) (hs : sL_appendWord n v u x1 = some (r0, v1, u1)) : Met l yL_appendWord wsL_appendWord ({ frames := 7, cells := 1, slots := 6, locals := 114 } : Room) (gPc D cy ad tL z0 v u [.ref (ad 0), .int x1, .ref (ad 89)]) (gQi D cy ad tL z0 v1 u1 r0) 1 6 (gA z0) := by
  refine va_MetW (cc := cL_appendWord) (maxL := 4) (ret := (some .int)) (hh := [(0, 9, 12, 21), (0, 9, 15, 15)]) (by decide) rfl ?_
  intro p e s m args below meth c s₁ B hml hv
  obtain ⟨rfl, hB0⟩ := hv
  have hP : va_P D vwCl (gW cy ad v u) s.heap := hB0.1
  have hK : gK D cy tL z0 s s.heap := hB0.2
  have hx := B.exec
  have hb := B.bytes
  have hr := B.returns
  have hts := atoms_spec (ws := wsL_appendWord) B.pre
  have hown : s.vm.findClass RL = some m.cls := findClass_of_methodNamed B.named
  have hlocks := B.notSynchronized
  have hS : va_S (gA z0) s.heap s.heap [] := va_S.rf
  have htab : c.exceptionTable.toList = tableOf [(0, 9, 12, 21), (0, 9, 15, 15)] := vx_table (x := yL_appendWord) B (hts (.codeWith yL_appendWord cL_appendWord 4 (some .int) [(0, 9, 12, 21), (0, 9, 15, 15)]) List.mem_cons_self)
  have hl := lv_entry ([.ref (ad 0), .int x1, .ref (ad 89)]) (n := 4) (Nat.le_of_ble_eq_true rfl)
  rw [lg_entry_eq]
  generalize (lg_sl ([.ref (ad 0), .int x1, .ref (ad 89)]) ++ List.replicate (4 - (lg_sl ([.ref (ad 0), .int x1, .ref (ad 89)])).length) Slot.unset).toArray = ls at hl ⊢
  have hl : lv_has ls 4 [(0, .ref (ad 0)), (1, .int x1), (2, .ref (ad 89))] := hl
  clear hB0
  unfold sL_appendWord at hs
  refine g_bind hs (fun q hq hs => ?_)
  refine lv_aload_n hx hb dL_appendWord_0 rfl (lv_at hl 2 rfl) ?_
  refine lv_iconst (v := 0) hx hb dL_appendWord_1 (by decide) ?_
  refine lv_aload_n hx hb dL_appendWord_2 rfl (lv_at hl 0 rfl) ?_
  refine lv_iload_n hx hb dL_appendWord_3 rfl (lv_at hl 1 rfl) ?_
  refine gCX_i (As := [.int x1]) (rest := [.int 0, .ref (ad 89)]) ⟨hx, hb, hml, hown, hts⟩ (cX5_appendWord_c l hst D cy ad tL z0 hI n v u x1 q.1 q.2 hq) (cwV 1 hts gL_appendWord_X5_appendWord rfl rfl rfl (by decide +kernel) ⟨Nat.le_of_ble_eq_true rfl, Nat.le_of_ble_eq_true rfl⟩) hK hP hS (va_recv hK.1 hP (ci := 5) (q0 := 0) rfl (gW_5 kd0)) hl.1 rfl rfl (Nat.le_of_ble_eq_true rfl) dL_appendWord_4 ⟨Nat.le_of_ble_eq_true rfl, Nat.le_of_ble_eq_true rfl⟩ (fun i H locs q9 ce eo hP hS hce hcv hcl => ?_) (fun r H locs eo hP hS => ?_)
  · rw [eo] at hs
    have hs := gOut_l hs
    by_cases h0 : i = 2
    · have hs := g_t hs h0
      subst h0
      refine vx_catch (own := RL) (name := "java/lang/IndexOutOfBoundsException") (E := "java/lang/IndexOutOfBoundsException") hown [] ⟨0, 9, 12, 21⟩ [⟨0, 9, 15, 15⟩] htab (fun z hz => absurd hz List.not_mem_nil) (by decide) (by decide) (hts (.classLink RL 21 "java/lang/IndexOutOfBoundsException") (by decide +kernel)) (va_Nw.use rfl (hK.2.2.2.2.2.2.1 _ (List.mem_of_getElem? (i := 2) rfl))) hce hcv hcl ?_
      refine lv_astore_n (lv' := [(3, .ref q9), (0, .ref (ad 0)), (1, .int x1), (2, .ref (ad 89))]) hx hb dL_appendWord_12 rfl hl (by decide) rfl (fun ls hl => ?_)
      refine lv_iconst (v := 1) hx hb dL_appendWord_13 (by decide) ?_
      exact gRet_w hx hb hr hlocks hK hP hS (g_some3 hs) dL_appendWord_14
    · have hs := g_f hs h0
      by_cases h1 : i = 1
      · have hs := g_t hs h1
        subst h1
        refine vx_catch (own := RL) (name := "java/lang/IllegalStateException") (E := "java/lang/IllegalStateException") hown [⟨0, 9, 12, 21⟩] ⟨0, 9, 15, 15⟩ [] htab (fun z hz => by cases List.mem_singleton.mp hz; exact Or.inr ⟨by decide, "java/lang/IndexOutOfBoundsException", hts (.classLink RL 21 "java/lang/IndexOutOfBoundsException") (by decide +kernel), hK.2.2.2.2.2.2.2.2.1⟩) (by decide) (by decide) (hts (.classLink RL 15 "java/lang/IllegalStateException") (by decide +kernel)) (va_Nw.use rfl (hK.2.2.2.2.2.2.1 _ (List.mem_of_getElem? (i := 1) rfl))) hce hcv hcl ?_
        refine lv_astore_n (lv' := [(3, .ref q9), (0, .ref (ad 0)), (1, .int x1), (2, .ref (ad 89))]) hx hb dL_appendWord_15 rfl hl (by decide) rfl (fun ls hl => ?_)
        refine lv_iconst (v := 2) hx hb dL_appendWord_16 (by decide) ?_
        exact gRet_w hx hb hr hlocks hK hP hS (g_some3 hs) dL_appendWord_17
      · exact g_none (g_f hs h1)
  · rw [eo] at hs
    have hs := gOut_r hs
    refine lv_i2l hx hb dL_appendWord_7 rfl ?_
    refine gLast hx hb hI hK hP hS dL_appendWord_8 (fun H locs hP hS => ?_)
    refine lv_goto (tgt := 18) hx hb dL_appendWord_9 (by decide) ?_
    refine lv_iconst (v := 0) hx hb dL_appendWord_18 (by decide) ?_
    exact gRet_w hx hb hr hlocks hK hP hS (g_some3 hs) dL_appendWord_19
set_option maxHeartbeats 4000000 in
set_option maxRecDepth 100000 in
theorem cL_enter_c (l : Launch) (hst : l.stackTraces = false) (D : va_G) (cy : Nat → ClassId) (ad : Nat → Nat) (tL z0 : Nat) (hI : gI z0 ad) (n : Nat) (v : gV) (u : Int64) (r0 : Int32) (v1 : gV) (u1 : Int64) (hs : sL_enter n v u = some (r0, v1, u1)) : Met l yL_enter wsL_enter ({ frames := 7, cells := 1, slots := 6, locals := 161 } : Room) (gPc D cy ad tL z0 v u [.ref (ad 0), .ref (ad 89)]) (gQi D cy ad tL z0 v1 u1 r0) 1 6 (gA z0) := by
  refine va_MetW (cc := cL_enter) (maxL := 3) (ret := (some .int)) (hh := [(0, 8, 11, 13)]) (by decide) rfl ?_
  intro p e s m args below meth c s₁ B hml hv
  obtain ⟨rfl, hB0⟩ := hv
  have hP : va_P D vwCl (gW cy ad v u) s.heap := hB0.1
  have hK : gK D cy tL z0 s s.heap := hB0.2
  have hx := B.exec
  have hb := B.bytes
  have hr := B.returns
  have hts := atoms_spec (ws := wsL_enter) B.pre
  have hown : s.vm.findClass RL = some m.cls := findClass_of_methodNamed B.named
  have hlocks := B.notSynchronized
  have hS : va_S (gA z0) s.heap s.heap [] := va_S.rf
  have htab : c.exceptionTable.toList = tableOf [(0, 8, 11, 13)] := vx_table (x := yL_enter) B (hts (.codeWith yL_enter cL_enter 3 (some .int) [(0, 8, 11, 13)]) List.mem_cons_self)
  have hl := lv_entry ([.ref (ad 0), .ref (ad 89)]) (n := 3) (Nat.le_of_ble_eq_true rfl)
  rw [lg_entry_eq]
  generalize (lg_sl ([.ref (ad 0), .ref (ad 89)]) ++ List.replicate (3 - (lg_sl ([.ref (ad 0), .ref (ad 89)])).length) Slot.unset).toArray = ls at hl ⊢
  have hl : lv_has ls 3 [(0, .ref (ad 0)), (1, .ref (ad 89))] := hl
  clear hB0
  unfold sL_enter at hs
  refine g_bind hs (fun q hq hs => ?_)
  refine lv_aload_n hx hb dL_enter_0 rfl (lv_at hl 1 rfl) ?_
  refine lv_iconst (v := 0) hx hb dL_enter_1 (by decide) ?_
  refine lv_aload_n hx hb dL_enter_2 rfl (lv_at hl 0 rfl) ?_
  refine gCX_i (As := []) (rest := [.int 0, .ref (ad 89)]) ⟨hx, hb, hml, hown, hts⟩ (cX5_enter_c l hst D cy ad tL z0 hI n v u q.1 q.2 hq) (cwV 0 hts gL_enter_X5_enter rfl rfl rfl (by decide +kernel) ⟨Nat.le_of_ble_eq_true rfl, Nat.le_of_ble_eq_true rfl⟩) hK hP hS (va_recv hK.1 hP (ci := 5) (q0 := 0) rfl (gW_5 kd0)) hl.1 rfl rfl (Nat.le_of_ble_eq_true rfl) dL_enter_3 ⟨Nat.le_of_ble_eq_true rfl, Nat.le_of_ble_eq_true rfl⟩ (fun i H locs q9 ce eo hP hS hce hcv hcl => ?_) (fun r H locs eo hP hS => ?_)
  · rw [eo] at hs
    have hs := gOut_l hs
    by_cases h0 : i = 0
    · have hs := g_t hs h0
      subst h0
      refine vx_catch (own := RL) (name := "java/lang/IllegalArgumentException") (E := "java/lang/IllegalArgumentException") hown [] ⟨0, 8, 11, 13⟩ [] htab (fun z hz => absurd hz List.not_mem_nil) (by decide) (by decide) (hts (.classLink RL 13 "java/lang/IllegalArgumentException") (by decide +kernel)) (va_Nw.use rfl (hK.2.2.2.2.2.2.1 _ (List.mem_of_getElem? (i := 0) rfl))) hce hcv hcl ?_
      refine lv_astore_n (lv' := [(2, .ref q9), (0, .ref (ad 0)), (1, .ref (ad 89))]) hx hb dL_enter_11 rfl hl (by decide) rfl (fun ls hl => ?_)
      refine lv_iconst (v := 1) hx hb dL_enter_12 (by decide) ?_
      exact gRet_w hx hb hr hlocks hK hP hS (g_some3 hs) dL_enter_13
    · have hs := g_f hs h0
      exact g_none (g_f hs h0)
  · rw [eo] at hs
    have hs := gOut_r hs
    refine lv_i2l hx hb dL_enter_6 rfl ?_
    refine gLast hx hb hI hK hP hS dL_enter_7 (fun H locs hP hS => ?_)
    refine lv_goto (tgt := 14) hx hb dL_enter_8 (by decide) ?_
    refine lv_iconst (v := 0) hx hb dL_enter_14 (by decide) ?_
    exact gRet_w hx hb hr hlocks hK hP hS (g_some3 hs) dL_enter_15
set_option maxHeartbeats 4000000 in
set_option maxRecDepth 100000 in
theorem cL_ifEntered_c (l : Launch) (hst : l.stackTraces = false) (D : va_G) (cy : Nat → ClassId) (ad : Nat → Nat) (tL z0 : Nat) (hI : gI z0 ad) (n : Nat) (v : gV) (u : Int64) (r0 : Int32) (v1 : gV) (u1 : Int64) (hs : sL_ifEntered n v u = some (r0, v1, u1)) : Met l yL_ifEntered wsL_ifEntered ({ frames := 7, cells := 1, slots := 6, locals := 161 } : Room) (gPc D cy ad tL z0 v u [.ref (ad 0), .ref (ad 89)]) (gQi D cy ad tL z0 v1 u1 r0) 1 6 (gA z0) := by
  refine va_MetW (cc := cL_ifEntered) (maxL := 3) (ret := (some .int)) (hh := [(0, 8, 11, 13)]) (by decide) rfl ?_
  intro p e s m args below meth c s₁ B hml hv
  obtain ⟨rfl, hB0⟩ := hv
  have hP : va_P D vwCl (gW cy ad v u) s.heap := hB0.1
  have hK : gK D cy tL z0 s s.heap := hB0.2
  have hx := B.exec
  have hb := B.bytes
  have hr := B.returns
  have hts := atoms_spec (ws := wsL_ifEntered) B.pre
  have hown : s.vm.findClass RL = some m.cls := findClass_of_methodNamed B.named
  have hlocks := B.notSynchronized
  have hS : va_S (gA z0) s.heap s.heap [] := va_S.rf
  have htab : c.exceptionTable.toList = tableOf [(0, 8, 11, 13)] := vx_table (x := yL_ifEntered) B (hts (.codeWith yL_ifEntered cL_ifEntered 3 (some .int) [(0, 8, 11, 13)]) List.mem_cons_self)
  have hl := lv_entry ([.ref (ad 0), .ref (ad 89)]) (n := 3) (Nat.le_of_ble_eq_true rfl)
  rw [lg_entry_eq]
  generalize (lg_sl ([.ref (ad 0), .ref (ad 89)]) ++ List.replicate (3 - (lg_sl ([.ref (ad 0), .ref (ad 89)])).length) Slot.unset).toArray = ls at hl ⊢
  have hl : lv_has ls 3 [(0, .ref (ad 0)), (1, .ref (ad 89))] := hl
  clear hB0
  unfold sL_ifEntered at hs
  refine g_bind hs (fun q hq hs => ?_)
  refine lv_aload_n hx hb dL_ifEntered_0 rfl (lv_at hl 1 rfl) ?_
  refine lv_iconst (v := 0) hx hb dL_ifEntered_1 (by decide) ?_
  refine lv_aload_n hx hb dL_ifEntered_2 rfl (lv_at hl 0 rfl) ?_
  refine gCX_i (As := []) (rest := [.int 0, .ref (ad 89)]) ⟨hx, hb, hml, hown, hts⟩ (cX5_ifEntered_c l hst D cy ad tL z0 hI n v u q.1 q.2 hq) (cwV 0 hts gL_ifEntered_X5_ifEntered rfl rfl rfl (by decide +kernel) ⟨Nat.le_of_ble_eq_true rfl, Nat.le_of_ble_eq_true rfl⟩) hK hP hS (va_recv hK.1 hP (ci := 5) (q0 := 0) rfl (gW_5 kd0)) hl.1 rfl rfl (Nat.le_of_ble_eq_true rfl) dL_ifEntered_3 ⟨Nat.le_of_ble_eq_true rfl, Nat.le_of_ble_eq_true rfl⟩ (fun i H locs q9 ce eo hP hS hce hcv hcl => ?_) (fun r H locs eo hP hS => ?_)
  · rw [eo] at hs
    have hs := gOut_l hs
    by_cases h0 : i = 0
    · have hs := g_t hs h0
      subst h0
      refine vx_catch (own := RL) (name := "java/lang/IllegalArgumentException") (E := "java/lang/IllegalArgumentException") hown [] ⟨0, 8, 11, 13⟩ [] htab (fun z hz => absurd hz List.not_mem_nil) (by decide) (by decide) (hts (.classLink RL 13 "java/lang/IllegalArgumentException") (by decide +kernel)) (va_Nw.use rfl (hK.2.2.2.2.2.2.1 _ (List.mem_of_getElem? (i := 0) rfl))) hce hcv hcl ?_
      refine lv_astore_n (lv' := [(2, .ref q9), (0, .ref (ad 0)), (1, .ref (ad 89))]) hx hb dL_ifEntered_11 rfl hl (by decide) rfl (fun ls hl => ?_)
      refine lv_iconst (v := 1) hx hb dL_ifEntered_12 (by decide) ?_
      exact gRet_w hx hb hr hlocks hK hP hS (g_some3 hs) dL_ifEntered_13
    · have hs := g_f hs h0
      exact g_none (g_f hs h0)
  · rw [eo] at hs
    have hs := gOut_r hs
    refine lv_i2l hx hb dL_ifEntered_6 rfl ?_
    refine gLast hx hb hI hK hP hS dL_ifEntered_7 (fun H locs hP hS => ?_)
    refine lv_goto (tgt := 14) hx hb dL_ifEntered_8 (by decide) ?_
    refine lv_iconst (v := 0) hx hb dL_ifEntered_14 (by decide) ?_
    exact gRet_w hx hb hr hlocks hK hP hS (g_some3 hs) dL_ifEntered_15
set_option maxHeartbeats 4000000 in
set_option maxRecDepth 100000 in
theorem cL_undo_c (l : Launch) (hst : l.stackTraces = false) (D : va_G) (cy : Nat → ClassId) (ad : Nat → Nat) (tL z0 : Nat) (hI : gI z0 ad) (n : Nat) (v : gV) (u : Int64) (r0 : Int32) (v1 : gV) (u1 : Int64) (hs : sL_undo n v u = some (r0, v1, u1)) : Met l yL_undo wsL_undo ({ frames := 7, cells := 1, slots := 6, locals := 110 } : Room) (gPc D cy ad tL z0 v u [.ref (ad 0), .ref (ad 89)]) (gQi D cy ad tL z0 v1 u1 r0) 1 6 (gA z0) := by
  refine va_MetW (cc := cL_undo) (maxL := 3) (ret := (some .int)) (hh := [(0, 8, 11, 15)]) (by decide) rfl ?_
  intro p e s m args below meth c s₁ B hml hv
  obtain ⟨rfl, hB0⟩ := hv
  have hP : va_P D vwCl (gW cy ad v u) s.heap := hB0.1
  have hK : gK D cy tL z0 s s.heap := hB0.2
  have hx := B.exec
  have hb := B.bytes
  have hr := B.returns
  have hts := atoms_spec (ws := wsL_undo) B.pre
  have hown : s.vm.findClass RL = some m.cls := findClass_of_methodNamed B.named
  have hlocks := B.notSynchronized
  have hS : va_S (gA z0) s.heap s.heap [] := va_S.rf
  have htab : c.exceptionTable.toList = tableOf [(0, 8, 11, 15)] := vx_table (x := yL_undo) B (hts (.codeWith yL_undo cL_undo 3 (some .int) [(0, 8, 11, 15)]) List.mem_cons_self)
  have hl := lv_entry ([.ref (ad 0), .ref (ad 89)]) (n := 3) (Nat.le_of_ble_eq_true rfl)
  rw [lg_entry_eq]
  generalize (lg_sl ([.ref (ad 0), .ref (ad 89)]) ++ List.replicate (3 - (lg_sl ([.ref (ad 0), .ref (ad 89)])).length) Slot.unset).toArray = ls at hl ⊢
  have hl : lv_has ls 3 [(0, .ref (ad 0)), (1, .ref (ad 89))] := hl
  clear hB0
  unfold sL_undo at hs
  refine g_bind hs (fun q hq hs => ?_)
  refine lv_aload_n hx hb dL_undo_0 rfl (lv_at hl 1 rfl) ?_
  refine lv_iconst (v := 0) hx hb dL_undo_1 (by decide) ?_
  refine lv_aload_n hx hb dL_undo_2 rfl (lv_at hl 0 rfl) ?_
  refine gCX_i (As := []) (rest := [.int 0, .ref (ad 89)]) ⟨hx, hb, hml, hown, hts⟩ (cX5_undo_c l hst D cy ad tL z0 hI n v u q.1 q.2 hq) (cwV 0 hts gL_undo_X5_undo rfl rfl rfl (by decide +kernel) ⟨Nat.le_of_ble_eq_true rfl, Nat.le_of_ble_eq_true rfl⟩) hK hP hS (va_recv hK.1 hP (ci := 5) (q0 := 0) rfl (gW_5 kd0)) hl.1 rfl rfl (Nat.le_of_ble_eq_true rfl) dL_undo_3 ⟨Nat.le_of_ble_eq_true rfl, Nat.le_of_ble_eq_true rfl⟩ (fun i H locs q9 ce eo hP hS hce hcv hcl => ?_) (fun r H locs eo hP hS => ?_)
  · rw [eo] at hs
    have hs := gOut_l hs
    by_cases h0 : i = 1
    · have hs := g_t hs h0
      subst h0
      refine vx_catch (own := RL) (name := "java/lang/IllegalStateException") (E := "java/lang/IllegalStateException") hown [] ⟨0, 8, 11, 15⟩ [] htab (fun z hz => absurd hz List.not_mem_nil) (by decide) (by decide) (hts (.classLink RL 15 "java/lang/IllegalStateException") (by decide +kernel)) (va_Nw.use rfl (hK.2.2.2.2.2.2.1 _ (List.mem_of_getElem? (i := 1) rfl))) hce hcv hcl ?_
      refine lv_astore_n (lv' := [(2, .ref q9), (0, .ref (ad 0)), (1, .ref (ad 89))]) hx hb dL_undo_11 rfl hl (by decide) rfl (fun ls hl => ?_)
      refine lv_iconst (v := 1) hx hb dL_undo_12 (by decide) ?_
      exact gRet_w hx hb hr hlocks hK hP hS (g_some3 hs) dL_undo_13
    · have hs := g_f hs h0
      exact g_none (g_f hs h0)
  · rw [eo] at hs
    have hs := gOut_r hs
    refine lv_i2l hx hb dL_undo_6 rfl ?_
    refine gLast hx hb hI hK hP hS dL_undo_7 (fun H locs hP hS => ?_)
    refine lv_goto (tgt := 14) hx hb dL_undo_8 (by decide) ?_
    refine lv_iconst (v := 0) hx hb dL_undo_14 (by decide) ?_
    exact gRet_w hx hb hr hlocks hK hP hS (g_some3 hs) dL_undo_15
