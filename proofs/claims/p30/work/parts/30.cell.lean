/-! the script's cell, read by a method of the law's -/
def sL_cell (xs : Nat → Int32) (L : Nat) (x1 : Int32) : Option Int32 := if nI L ≤ x1 then some ((7919 * (x1 + 3)) * (x1 + 11)) else (if ¬ (x1 < 0 ∨ L ≤ x1.toNatClampNeg) then some (xs x1.toNatClampNeg) else none)
def gBx (D : va_G) (cy : Nat → ClassId) (ad : Nat → Nat) (tL z0 : Nat) (v : gV) (u : Int64) (b L : Nat) (xs : Nat → Int32) (U : State) : Prop := gB D cy ad tL z0 v u U ∧ b < z0 ∧ va_X b L xs U U.heap ∧ b < U.heap.size
section GX9
variable {p : Program} {l : Launch} {e : Env} {R : Room} {s : State} {m : MethodId} {args : Array Value} {below : List Frame} {meth : Method} {c : Code} {H : Heap} {locs : List Loc} {cells slots : Nat} {Q : State → Prop}
variable {cc : ByteArray} {pc : Nat} {ls : Array Slot} {rest st : List Value} {D : va_G} {cy : Nat → ClassId} {ad : Nat → Nat} {tL z0 : Nat} {v v' : gV} {u u' : Int64} {b L : Nat} {xs : Nat → Int32}
theorem gBlindX (av : List Value) : FrameBlind (va_Pc av (gBx D cy ad tL z0 v u b L xs)) := by
  intro a U g mk q
  obtain ⟨q0, qB, qz, qX, qh⟩ := q
  have al : U.vm.Alike (U.calling g mk a).vm := Vm.Alike.refl U.vm
  have h1 := gBlind (D := D) (cy := cy) (ad := ad) (tL := tL) (z0 := z0) (v := v) (u := u) av a U g mk ⟨q0, qB⟩
  exact ⟨h1.1, h1.2, qz, va_X.moved (u := U) (U := U.calling g mk a) al qX, qh⟩
theorem gCSx_i {y : MethodName} {bytes : ByteArray} {maxL nL n index : Nat} {ret : Option FieldType} {ws Ts : List Cond} {rm : Room} {own : String} {As : List Value} {r0 : Int32} (S : CallFix p m c cc nL s args Ts own) (hM : Met l y ws rm (va_Pc As (gBx D cy ad tL z0 v u b L xs)) (gQi D cy ad tL z0 v' u r0) 0 0 (gA z0)) (cw : CallB R s args own index y bytes maxL ret ws rm 0 0 n ∧ (Cond.static y).before args s = true) (hK : gK D cy tL z0 s s.heap) (hP : va_P D vwCl (gW cy ad v u) H) (hS : va_S (gA z0) s.heap H locs) (hX : va_X b L xs s s.heap) (hbl : b < s.heap.size) (hbz : b < z0) (hsz : ls.size = nL) (hn : As.length = n) (hst : st = As.reverse ++ rest) (hw : (rest.map fun v => v.category).sum ≤ 8) (hdg : decode cc pc = .ok (.invokestatic index, 3)) (hf : cells + 0 ≤ R.cells ∧ slots + 0 ≤ R.slots)
    (kk : ∀ (H1 : Heap) (locs1 : List Loc), va_P D vwCl (gW cy ad v' u) H1 → va_S (gA z0) s.heap H1 locs1 → W p l e R s m args below meth c H1 locs1 cells slots Q (F0 m (pc + 3) ls (.int r0 :: rest))) : W p l e R s m args below meth c H locs cells slots Q (F0 m pc ls st) :=
  va_calli (va_runS (As := As) (rest := rest) S hM cw ⟨gBlindX _, fun U hU hW => ⟨rfl, gB_of hK hP hS hU hW, hbz, by rw [hU]; exact (hX.kept (hS.2.1 b hbl (Nat.not_le.mpr hbz))).moved hW.alike, by rw [hU]; exact Nat.lt_of_lt_of_le hbl hS.1⟩⟩ rfl hn hsz hst (lv_room hw) hdg hf) hS (fun _ _ h => h) (fun _ h => h) (fun r _ t H1 locs1 ht hvm e1 hB _ _ hS1 => by subst e1; exact kk H1 locs1 (ht ▸ hB.1) hS1)
end GX9
set_option maxHeartbeats 4000000 in
set_option maxRecDepth 100000 in
theorem cL_cell_c (l : Launch) (D : va_G) (cy : Nat → ClassId) (ad : Nat → Nat) (tL z0 : Nat) (hI : gI z0 ad) (b L : Nat) (xs : Nat → Int32) (v : gV) (u : Int64) (x1 : Int32) (r0 : Int32) (hs : sL_cell xs L x1 = some r0) : Met l yL_cell wsL_cell ({ frames := 0, cells := 0, slots := 0, locals := 0 } : Room) (va_Pc [.ref b, .int x1] (gBx D cy ad tL z0 v u b L xs)) (gQi D cy ad tL z0 v u r0) 0 0 (gA z0) := by
  refine Met.ofW (cc := cL_cell) (maxL := 2) (ret := (some .int)) (by decide) rfl ?_
  intro p e s m args below meth c s₁ B hml hv
  obtain ⟨rfl, hB0, hbz, hX, hbl⟩ := hv
  have hP : va_P D vwCl (gW cy ad v u) s.heap := hB0.1
  have hK : gK D cy tL z0 s s.heap := hB0.2
  have hx := B.exec
  have hb := B.bytes
  have hr := B.returns
  have hlocks := B.notSynchronized
  have hS : va_S (gA z0) s.heap s.heap [] := va_S.rf
  have hbA : ¬ gA z0 b := Nat.not_le.mpr hbz
  have hl := lv_entry ([.ref b, .int x1]) (n := 2) (Nat.le_of_ble_eq_true rfl)
  rw [lg_entry_eq]
  generalize (lg_sl ([.ref b, .int x1]) ++ List.replicate (2 - (lg_sl ([.ref b, .int x1])).length) Slot.unset).toArray = ls at hl ⊢
  have hl : lv_has ls 2 [(0, .ref b), (1, .int x1)] := hl
  clear hB0
  unfold sL_cell at hs
  refine lv_iload_n hx hb dL_cell_0 rfl (lv_at hl 1 rfl) ?_
  refine lv_aload_n hx hb dL_cell_1 rfl (lv_at hl 0 rfl) ?_
  refine va_slen hx hb hX hbl hbA hS dL_cell_2 ?_
  refine lv_icmp_ge (tgt := 12) hx hb dL_cell_3 (by decide) (fun hc => ?_) (fun hc => ?_)
  · have hs := g_t hs hc
    refine lv_sipush (v := 7919) hx hb dL_cell_12 (by decide) ?_
    refine lv_iload_n hx hb dL_cell_15 rfl (lv_at hl 1 rfl) ?_
    refine lv_iconst (v := 3) hx hb dL_cell_16 (by decide) ?_
    refine lv_iadd hx hb dL_cell_17 ?_
    refine lv_imul hx hb dL_cell_18 ?_
    refine lv_iload_n hx hb dL_cell_19 rfl (lv_at hl 1 rfl) ?_
    refine lv_bipush (v := 11) hx hb dL_cell_20 (by decide) ?_
    refine lv_iadd hx hb dL_cell_22 ?_
    refine lv_imul hx hb dL_cell_23 ?_
    exact gRet_i hx hb hr hlocks hK hP hS ⟨g_some hs, rfl⟩ dL_cell_24
  · have hs := g_f hs hc
    refine g_chk hs (fun hc hs => ?_)
    refine lv_aload_n hx hb dL_cell_6 rfl (lv_at hl 0 rfl) ?_
    refine lv_iload_n hx hb dL_cell_7 rfl (lv_at hl 1 rfl) ?_
    refine va_sld hx hb hX hbl hbA hS hc dL_cell_8 ?_
    refine lv_goto (tgt := 24) hx hb dL_cell_9 (by decide) ?_
    exact gRet_i hx hb hr hlocks hK hP hS ⟨g_some hs, rfl⟩ dL_cell_24
