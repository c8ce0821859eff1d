/-! from the law's entry to its loop -/
def gL (n : Nat) (q : Nat → Nat) (E : Nat → va_E) : va_W := (List.range n).map (fun k => (q k, E k))
theorem gL_at {n : Nat} {q : Nat → Nat} {E : Nat → va_E} {k : Nat} (h : k < n) : (gL n q E)[k]? = some (q k, E k) := by
  unfold gL
  rw [List.getElem?_map, List.getElem?_range h]
  rfl
theorem gL_len {n : Nat} {q : Nat → Nat} {E : Nat → va_E} : (gL n q E).length = n := by simp [gL]
theorem gL_inv {n : Nat} {q : Nat → Nat} {E : Nat → va_E} {k : Nat} {x : Nat × va_E} (h : (gL n q E)[k]? = some x) : k < n ∧ x = (q k, E k) := by
  have hk : k < n := by
    have := (List.getElem?_eq_some_iff.mp h).1
    rw [gL_len] at this
    exact this
  rw [gL_at hk] at h
  exact ⟨hk, (Option.some.inj h).symm⟩
theorem gL_P {D : va_G} {n : Nat} {q : Nat → Nat} {E : Nat → va_E} {H : Heap} (h : ∀ k, k < n → va_at D vwCl (q k, E k) H) : va_P D vwCl (gL n q E) H := fun k x hx => by
  obtain ⟨hk, rfl⟩ := gL_inv hx
  exact h k hk
theorem gL_D {A : Nat → Prop} {n : Nat} {q : Nat → Nat} {E : Nat → va_E} (h : ∀ i j, i < n → j < n → q i = q j → i = j) (h2 : ∀ k, k < n → A (q k)) : va_D A (gL n q E) := by
  refine ⟨fun i j x y hx hy e => ?_, fun k x hx => ?_⟩
  · obtain ⟨hi, rfl⟩ := gL_inv hx
    obtain ⟨hj, rfl⟩ := gL_inv hy
    exact h i j hi hj e
  · obtain ⟨hk, rfl⟩ := gL_inv hx
    exact h2 k hk
section GX
variable {p : Program} {l : Launch} {e : Env} {R : Room} {s : State} {m : MethodId} {args : Array Value} {below : List Frame} {meth : Method} {c : Code} {H : Heap} {locs : List Loc} {cells slots : Nat} {Q : State → Prop}
variable {cc : ByteArray} {pc : Nat} {ls : Array Slot} {rest st : List Value} {D : va_G} {cy : Nat → ClassId} {tL z0 : Nat} {A : Nat → Prop}
theorem gCIx {S9 : Type} {post : S9 → Prop} {B : S9 → State → Prop} {y : MethodName} {bytes : ByteArray} {maxL nL index mc ms : Nat} {ws Ts : List Cond} {rm : Room} {own : String} {q : Nat} {e0 : va_E} {wr : va_W} (S : CallFix p m c cc nL s args Ts own) (hM : Met l y ws rm (gPi D cy tL z0 q H.size e0) (va_Qv post B (gF q H.size)) mc ms (gF q H.size)) (cw : CallB R s args own index y bytes maxL none ws rm mc ms 0 ∧ y.name = "<init>" ∧ (Cond.instanceMethod y).before args s = true) (hsub : ∀ a, A a → gA z0 a) (hbig : ∀ a, s.heap.size ≤ a → A a) (hK : gK D cy tL z0 s s.heap) (hP : va_P D vwCl (wr ++ [(q, e0)]) H) (hD : va_D A (wr ++ [(q, e0)])) (hS : va_S A s.heap H locs) (hsz : ls.size = nL) (hw : (rest.map fun v => v.category).sum ≤ 8) (hdg : decode cc pc = .ok (.invokespecial index, 3)) (hf : cells + mc ≤ R.cells ∧ slots + ms ≤ R.slots)
    (kk : ∀ (u : S9) (t : State) (H1 : Heap) (locs1 : List Loc), t.heap = H1 → post u → B u t → (∀ a : Nat, a < H.size → ¬ gF q H.size a → H1[a]? = H[a]?) → va_S A s.heap H1 locs1 → W p l e R s m args below meth c H1 locs1 (cells + mc) (slots + ms) Q (F0 m (pc + 3) ls rest)) : W p l e R s m args below meth c H locs cells slots Q (F0 m pc ls (.ref q :: rest)) := by
  have hq : (wr ++ [(q, e0)])[wr.length]? = some (q, e0) := by simp
  have hAq : A q := hD.2 wr.length (q, e0) hq
  have hf9 : ∀ a, gF q H.size a → A a := fun a h => by
    rcases h with h | h
    · rw [h]; exact hAq
    · exact hbig a (Nat.le_trans hS.1 h)
  exact va_callv (va_runI (As := []) (rest := rest) S hM cw ⟨gBlindI _ _ _, fun U hU hW => ⟨rfl, by rw [hU], by rw [hU]; exact fun k x hx => hP (wr.length + k) x (by rw [List.getElem?_append_right (by omega), show wr.length + k - wr.length = k by omega]; exact hx), gK_of hsub hK hS hU hW⟩⟩ rfl rfl hsz rfl (lv_room hw) hdg hf) hS (fun a _ h => hf9 a h) hf9 (fun u t H1 locs1 ht hvm hp hB hz1 hk1 hS1 => kk u t H1 locs1 ht hp hB hk1 hS1)
end GX
/-- how the picture begins -/
def Init (v : gV) : Prop := (∀ k, k < 81 → v k = iv k) ∧ (v 81 = fun _ => 0) ∧ (∀ j, j < 85 → v 82 j = gTabL.getD j 0) ∧ (∀ j, j < 26 → v 83 j = gTabB.getD j 0) ∧ (v 84 = upd (fun _ => 0) 50 (-1)) ∧ (v 85 = fun _ => 0) ∧ (v 86 = fun _ => 0) ∧ (v 87 = fun _ => 0) ∧ (v 88 = fun _ => 0)
def v0of (fL fB : Nat → Int32) : gV := fun k => if k < 81 then iv k else if k < 89 then mrow fL fB (k - 81) else fun _ => 0
theorem init_of {fL fB : Nat → Int32} (h1 : ∀ j, j < 85 → fL j = gTabL.getD j 0) (h2 : ∀ j, j < 26 → fB j = gTabB.getD j 0) : Init (v0of fL fB) := by
  refine ⟨fun k hk => ?_, rfl, h1, h2, rfl, rfl, rfl, rfl, rfl⟩
  unfold v0of
  rw [if_pos hk]
def adof (q qm : Nat → Nat) (qo : Nat) : Nat → Nat := fun k => if k < 81 then q k else if k < 89 then qm (k - 81) else qo
theorem ad_5 (cy : Nat → ClassId) (q qm : Nat → Nat) (qo : Nat) (fL fB : Nat → Int32) : ∀ k, k < 81 → (k ≠ 26 → gEr cy (adof q qm qo) 0 k (v0of fL fB k) (kd k) = gEr cy q 0 k (iv k) (kd k)) :=
  lt_s (lt_s (lt_s (lt_s (lt_s (lt_s (lt_s (lt_s (lt_s (lt_s (lt_s (lt_s (lt_s (lt_s (lt_s (lt_s (lt_s (lt_s (lt_s (lt_s (lt_s (lt_s (lt_s (lt_s (lt_s (lt_s (lt_s (lt_s (lt_s (lt_s (lt_s (lt_s (lt_s (lt_s (lt_s (lt_s (lt_s (lt_s (lt_s (lt_s (lt_s (lt_s (lt_s (lt_s (lt_s (lt_s (lt_s (lt_s (lt_s (lt_s (lt_s (lt_s (lt_s (lt_s (lt_s (lt_s (lt_s (lt_s (lt_s (lt_s (lt_s (lt_s (lt_s (lt_s (lt_s (lt_s (lt_s (lt_s (lt_s (lt_s (lt_s (lt_s (lt_s (lt_s (lt_s (lt_s (lt_s (lt_s (lt_s (lt_s (lt_s (lt_0) (fun _ => rfl)) (fun _ => rfl)) (fun _ => rfl)) (fun _ => rfl)) (fun _ => rfl)) (fun _ => rfl)) (fun _ => rfl)) (fun _ => rfl)) (fun _ => rfl)) (fun _ => rfl)) (fun _ => rfl)) (fun _ => rfl)) (fun _ => rfl)) (fun _ => rfl)) (fun _ => rfl)) (fun _ => rfl)) (fun _ => rfl)) (fun _ => rfl)) (fun _ => rfl)) (fun _ => rfl)) (fun _ => rfl)) (fun _ => rfl)) (fun _ => rfl)) (fun _ => rfl)) (fun _ => rfl)) (fun _ => rfl)) (fun h => absurd rfl h)) (fun _ => rfl)) (fun _ => rfl)) (fun _ => rfl)) (fun _ => rfl)) (fun _ => rfl)) (fun _ => rfl)) (fun _ => rfl)) (fun _ => rfl)) (fun _ => rfl)) (fun _ => rfl)) (fun _ => rfl)) (fun _ => rfl)) (fun _ => rfl)) (fun _ => rfl)) (fun _ => rfl)) (fun _ => rfl)) (fun _ => rfl)) (fun _ => rfl)) (fun _ => rfl)) (fun _ => rfl)) (fun _ => rfl)) (fun _ => rfl)) (fun _ => rfl)) (fun _ => rfl)) (fun _ => rfl)) (fun _ => rfl)) (fun _ => rfl)) (fun _ => rfl)) (fun _ => rfl)) (fun _ => rfl)) (fun _ => rfl)) (fun _ => rfl)) (fun _ => rfl)) (fun _ => rfl)) (fun _ => rfl)) (fun _ => rfl)) (fun _ => rfl)) (fun _ => rfl)) (fun _ => rfl)) (fun _ => rfl)) (fun _ => rfl)) (fun _ => rfl)) (fun _ => rfl)) (fun _ => rfl)) (fun _ => rfl)) (fun _ => rfl)) (fun _ => rfl)) (fun _ => rfl)) (fun _ => rfl)) (fun _ => rfl)) (fun _ => rfl)) (fun _ => rfl)) (fun _ => rfl)) (fun _ => rfl)
theorem ad_6 (cy : Nat → ClassId) (q qm : Nat → Nat) (qo : Nat) (fL fB : Nat → Int32) : ∀ j, j < 8 → gEr cy (adof q qm qo) 0 (81 + j) (v0of fL fB (81 + j)) (kd (81 + j)) = gEr cy (fun k => qm (k - 81)) 0 (81 + j) (mrow fL fB j) (kd (81 + j)) :=
  lt_s (lt_s (lt_s (lt_s (lt_s (lt_s (lt_s (lt_s (lt_0) (rfl)) (rfl)) (rfl)) (rfl)) (rfl)) (rfl)) (rfl)) (rfl)
theorem ar_of {s : State} {args : Array Value} {ty : FieldType} (h : (Cond.arrayClass ty).before args s = true) : ∃ cA, ArrOfT s cA ty ∧ s.vm.findClass ("[" ++ ty.toString) = some cA := by
  obtain ⟨cA, k, comp, h1, h2, h3⟩ := Cond.arrayClass_spec h
  exact ⟨cA, fun n z => ⟨fun k h => (by cases h), k, h2, comp, h3⟩, h1⟩
theorem ao_of {s : State} {args : Array Value} {C : String} (h : (Cond.arrayOver (.object C)).before args s = true) : ∃ cA, ArrOfT s cA (.object C) ∧ va_RA s cA (.object C) := by
  obtain ⟨comp, cA, k, h1, h2, h3, h4, h5⟩ := Cond.arrayOver_spec h
  exact ⟨cA, fun n z => ⟨fun k h => (by cases h), k, h3, comp, h4⟩, k, comp, h3, h4, h1, h5⟩
set_option maxHeartbeats 8000000 in
set_option maxRecDepth 100000 in
theorem start_of (hmain : ∀ (xs : Nat → Int32) (L : Nat) (v : gV), L ≤ 2048 → Init v → sL_law_23 1000 xs L 1000 v 0 0 = some 1) {p : Program} {e : Env} {s : State} {m : MethodId} {below : List Frame} {meth : Method} {c : Code} (l : Launch) (hflags : l.flags = flags0) {b L : Nat} {xs : Nat → Int32} (hL : L ≤ 2048) (C0 : lw_At p s m meth c b L xs) : W p l e room_1 s m #[Value.ref b] below meth c s.heap [] 0 0 (lw_Z below #[Value.ref b] s) (entryFrame m ([Value.ref b] : List Value).toArray 7) := by
  obtain ⟨hx, hb, hr, hml, hown, hts, hX, hbl, hlocks, hgv⟩ := id C0
  have hst : l.stackTraces = false := by unfold Launch.stackTraces; rw [hflags]; decide +kernel
  have hA : ∀ q : Nat, s.heap.size ≤ q → gA s.heap.size q := fun _ h => h
  have hnA : ∀ a : Nat, a < s.heap.size → ¬ gA s.heap.size a := fun a h z => absurd (show s.heap.size ≤ a from z) (Nat.not_le.mpr h)
  obtain ⟨c0, iS0, hKn0⟩ := u_known (C := RX0) (T := TX0) (N := 2) (n := 2) hts zl_wsX00 (hts (.instantiable RX0 2) (zl_t1 (List.mem_of_getElem? (i := 25) (by decide +kernel))))
  obtain ⟨c1, iS1, hKn1⟩ := u_known (C := RX1) (T := TX1) (N := 8) (n := 8) hts zl_wsX10 (hts (.instantiable RX1 8) (zl_t1 (List.mem_of_getElem? (i := 46) (by decide +kernel))))
  obtain ⟨c2, iS2, hKn2⟩ := u_known (C := RX2) (T := TX2) (N := 3) (n := 3) hts zl_wsX20 (hts (.instantiable RX2 3) (zl_t1 (List.mem_of_getElem? (i := 40) (by decide +kernel))))
  obtain ⟨c3, iS3, hKn3⟩ := u_known (C := RX3) (T := TX3) (N := 9) (n := 9) hts zl_wsX30 (hts (.instantiable RX3 9) (zl_t1 (List.mem_of_getElem? (i := 97) (by decide +kernel))))
  obtain ⟨c4, iS4, hKn4⟩ := u_known (C := RX4) (T := TX4) (N := 6) (n := 6) hts zl_wsX40 (hts (.instantiable RX4 6) (zl_t1 (List.mem_of_getElem? (i := 103) (by decide +kernel))))
  obtain ⟨c5, iS5, hKn5⟩ := u_known (C := RX5) (T := TX5) (N := 7) (n := 7) hts zl_wsX50 (hts (.instantiable RX5 7) (zl_t1 (List.mem_of_getElem? (i := 17) (by decide +kernel))))
  obtain ⟨c6, iS6, hKn6⟩ := u_known (C := RX6) (T := TX6) (N := 17) (n := 17) hts zl_wsX60 (hts (.instantiable RX6 17) (zl_t4 (List.mem_of_getElem? (i := 16) (by decide +kernel))))
  obtain ⟨D, hKc⟩ : ∃ D : va_G, ∀ (k : Nat) (q : vw_C), vwCl[k]? = some q → u_Kn s q.1 q.2.1 q.2.2 (D.1 k) (D.2 k) := by
    refine ⟨(fun k => if k = 0 then c0 else if k = 1 then c1 else if k = 2 then c2 else if k = 3 then c3 else if k = 4 then c4 else if k = 5 then c5 else c6, fun k => if k = 0 then iS0 else if k = 1 then iS1 else if k = 2 then iS2 else if k = 3 then iS3 else if k = 4 then iS4 else if k = 5 then iS5 else iS6), ?_⟩
    intro k q hq
    match k, hq with
    | 0, hq => cases hq; exact hKn0
    | 1, hq => cases hq; exact hKn1
    | 2, hq => cases hq; exact hKn2
    | 3, hq => cases hq; exact hKn3
    | 4, hq => cases hq; exact hKn4
    | 5, hq => cases hq; exact hKn5
    | 6, hq => cases hq; exact hKn6
    | k + 7, hq => simp [vwCl] at hq
  obtain ⟨cI, aI, rI⟩ := ar_of (hts (.arrayClass .int) (zl_t1 (List.mem_of_getElem? (i := 84) (by decide +kernel))))
  obtain ⟨cC, aC, rC9⟩ := ar_of (hts (.arrayClass .char) (zl_t1 (List.mem_of_getElem? (i := 38) (by decide +kernel))))
  obtain ⟨cJ, aJ, rJ⟩ := ar_of (hts (.arrayClass .long) (zl_t5 (List.mem_of_getElem? (i := 117) (by decide +kernel))))
  have hAO := (hts (.arrayOver (.object "AdventureParser$State")) (zl_t1 (List.mem_of_getElem? (i := 170) (by decide +kernel))))
  obtain ⟨cS, aS, rS9⟩ := ao_of hAO
  obtain ⟨cy, ecy⟩ : ∃ cy : Nat → ClassId, cy = (fun k => if k = 0 then cI else if k = 1 then cC else if k = 2 then cS else cJ) := ⟨_, rfl⟩
  have hK0 : va_K D vwCl (gT cy) s := by
    refine ⟨hKc, fun k q hq => ?_⟩
    subst ecy
    match k, hq with
    | 0, hq => cases hq; exact ⟨aI, rI⟩
    | 1, hq => cases hq; exact ⟨aC, rC9⟩
    | 2, hq => cases hq; exact ⟨aS, rS9⟩
    | 3, hq => cases hq; exact ⟨aJ, rJ⟩
    | k + 4, hq => simp [gT] at hq
  have hfl := flat_of_before _ hgv
  have harr : (Cond.arrayOf (.static "AdventureParser" "LETTERS" "[C") .char).before #[Value.ref b] s = true := hfl _ (by decide +kernel)
  have hlen : (Cond.eq (.length (.static "AdventureParser" "LETTERS" "[C")) (.int 125)).before #[Value.ref b] s = true := hfl _ (by decide +kernel)
  have hel : ∀ j : Nat, j < 125 → (Cond.eq (.elem (.static "AdventureParser" "LETTERS" "[C") (.int (Int32.ofNat j))) (.int (gLet.getD j 0))).before #[Value.ref b] s = true := fun j hj => hfl _ ((show ∀ j : Nat, j < 125 → (Cond.eq (.elem (.static "AdventureParser" "LETTERS" "[C") (.int (Int32.ofNat j))) (.int (gLet.getD j 0))) ∈ flatC (Jvm.Cond.and given_1 narrow_1) by decide +kernel) j hj)
  obtain ⟨tL, htv, htT⟩ := va_Tof (N := 125) (f := gLetV) (A := gA s.heap.size) (by decide) harr (va_eqt hlen) (fun j hj => va_eqt (hel j hj)) hnA
  have hZL := va_Zof (A := gA s.heap.size) (hts (.laysStatic "AdventureParser" "LETTERS" "[C") (zl_t2 (List.mem_of_getElem? (i := 24) (by decide +kernel)))) (hts (.initialized RX5) (zl_t1 (List.mem_of_getElem? (i := 1) (by decide +kernel)))) htv hnA
  have hZ1 := vx_Zqof (A := gA s.heap.size) (hts (.laysStatic "java/lang/Throwable" "UNASSIGNED_STACK" "[Ljava/lang/StackTraceElement;") (zl_t2 (List.mem_of_getElem? (i := 203) (by decide +kernel)))) (hts (.initialized "java/lang/Throwable") (zl_t1 (List.mem_of_getElem? (i := 8) (by decide +kernel)))) (hfl _ (by decide +kernel)) hnA
  have hZ2 := vx_Zqof (A := gA s.heap.size) (hts (.laysStatic "java/lang/Throwable" "SUPPRESSED_SENTINEL" "Ljava/util/List;") (zl_t2 (List.mem_of_getElem? (i := 205) (by decide +kernel)))) (hts (.initialized "java/lang/Throwable") (zl_t1 (List.mem_of_getElem? (i := 8) (by decide +kernel)))) (hfl _ (by decide +kernel)) hnA
  have hK : gK D cy tL s.heap.size s s.heap := by
    refine ⟨hK0, hZL, htT, fun w hw => ?_, hZ1, hZ2, fun w hw => ?_, va_Nc.of (args := #[Value.ref b]) (hfl _ (by decide +kernel)), va_Nc.of (args := #[Value.ref b]) (hfl _ (by decide +kernel)), va_AO.of hAO⟩
    · unfold gNest at hw
      simp only [List.mem_cons, List.not_mem_nil, or_false] at hw
      rcases hw with rfl | rfl | rfl | rfl | rfl | rfl | rfl | rfl | rfl | rfl | rfl | rfl | rfl | rfl | rfl | rfl
      · exact va_Nw.of rfl (hts (.methodLinkNest RX4 38 yX5_isContainerNoun RX5) (zl_t2 (List.mem_of_getElem? (i := 173) (by decide +kernel))))
      · exact va_Nw.of rfl (hts (.methodLinkNest RX4 31 yX5_isRoom RX5) (zl_t2 (List.mem_of_getElem? (i := 166) (by decide +kernel))))
      · exact va_Nw.of rfl (hts (.methodLinkNest RX2 63 yX5_isNoun RX5) (zl_t2 (List.mem_of_getElem? (i := 51) (by decide +kernel))))
      · exact va_Nw.of rfl (hts (.methodLinkNest RX2 60 yX5_isAdjectiveWord RX5) (zl_t2 (List.mem_of_getElem? (i := 48) (by decide +kernel))))
      · exact va_Nw.of rfl (hts (.methodLinkNest RX2 57 yX5_isVerbWord RX5) (zl_t2 (List.mem_of_getElem? (i := 42) (by decide +kernel))))
      · exact va_Nw.of rfl (hts (.methodLinkNest RX1 52 yX5_isAdjectiveWord RX5) (zl_t2 (List.mem_of_getElem? (i := 79) (by decide +kernel))))
      · exact va_Nw.of rfl (hts (.methodLinkNest RX1 45 yX5_isNoun RX5) (zl_t2 (List.mem_of_getElem? (i := 67) (by decide +kernel))))
      · exact va_Nw.of rfl (hts (.methodLinkNest RX1 42 yX5_isVerbWord RX5) (zl_t2 (List.mem_of_getElem? (i := 66) (by decide +kernel))))
      · exact va_Nw.of rfl (hts (.methodLinkNest RX0 27 yX5_letterOf RX5) (zl_t2 (List.mem_of_getElem? (i := 29) (by decide +kernel))))
      · exact va_Nw.of rfl (hts (.methodLinkNest RX0 23 yX5_lengthOf RX5) (zl_t2 (List.mem_of_getElem? (i := 17) (by decide +kernel))))
      · exact va_Nw.of rfl (hts (.methodLinkNest RX5 25 yX3_init RX5) (zl_t1 (List.mem_of_getElem? (i := 98) (by decide +kernel))))
      · exact va_Nw.of rfl (hts (.methodLinkNest RX5 18 yX2_init RX5) (zl_t1 (List.mem_of_getElem? (i := 41) (by decide +kernel))))
      · exact va_Nw.of rfl (hts (.methodLinkNest RX5 11 yX0_init RX5) (zl_t1 (List.mem_of_getElem? (i := 26) (by decide +kernel))))
      · exact va_Nw.of rfl (hts (.methodLinkNest RX3 20 yX1_init RX5) (zl_t1 (List.mem_of_getElem? (i := 134) (by decide +kernel))))
      · exact va_Nw.of rfl (hts (.methodLinkNest RX3 11 yX4_init RX5) (zl_t1 (List.mem_of_getElem? (i := 104) (by decide +kernel))))
      · exact va_Nw.of rfl (hts (.methodLinkNest RX2 11 yX1_init RX5) (zl_t1 (List.mem_of_getElem? (i := 47) (by decide +kernel))))
    · unfold gXw at hw
      simp only [List.mem_cons, List.not_mem_nil, or_false] at hw
      rcases hw with rfl | rfl | rfl | rfl | rfl | rfl
      · exact va_Nw.of rfl (hts (.castable "java/lang/IllegalArgumentException" "java/lang/IllegalArgumentException") (zl_t2 (List.mem_of_getElem? (i := 178) (by decide +kernel))))
      · exact va_Nw.of rfl (hts (.castable "java/lang/IllegalStateException" "java/lang/IllegalStateException") (zl_t3 (List.mem_of_getElem? (i := 13) (by decide +kernel))))
      · exact va_Nw.of rfl (hts (.castable "java/lang/IndexOutOfBoundsException" "java/lang/IndexOutOfBoundsException") (zl_t3 (List.mem_of_getElem? (i := 65) (by decide +kernel))))
      · exact va_Nw.of rfl (hts _ (zl_t2 (List.mem_of_getElem? (i := 179) rfl)))
      · exact va_Nw.of rfl (hts _ (zl_t2 (List.mem_of_getElem? (i := 181) rfl)))
      · exact va_Nw.of rfl (hts _ (zl_t2 (List.mem_of_getElem? (i := 183) rfl)))
  have hS : va_S (gA s.heap.size) s.heap s.heap [] := va_S.rf
  have hP : va_P D vwCl ([] : va_W) s.heap := fun k q h => by simp at h
  have hD : va_D (gA s.heap.size) ([] : va_W) := ⟨fun i j p q h => by simp at h, fun k q h => by simp at h⟩
  have hl := lv_entry ([.ref b]) (n := 7) (Nat.le_of_ble_eq_true rfl)
  rw [lg_entry_eq]
  generalize (lg_sl ([.ref b]) ++ List.replicate (7 - (lg_sl ([.ref b])).length) Slot.unset).toArray = ls at hl ⊢
  have hl : lv_has ls 7 [(0, .ref b)] := hl
  refine va_new (ci := 5) (fs := [.null, .null, .null, .null, .null, .int 0, .int 0]) (C := RX5) (T := TX5) (N := 7) hx hb hts zl_wsX50 tyX5 tyX5_ok hown (hts (.classLink RL 8 RX5) (zl_t1 (List.mem_of_getElem? (i := 16) (by decide +kernel)))) (hts (.instantiable RX5 7) (zl_t1 (List.mem_of_getElem? (i := 17) (by decide +kernel)))) (hts (.initialized RX5) (zl_t1 (List.mem_of_getElem? (i := 1) (by decide +kernel)))) hK0 hP hD hS hA rfl (show ∀ j, j < 7 → defaultValue (tyX5 j) = vp_V [.null, .null, .null, .null, .null, .int 0, .int 0] j by decide +kernel) (Nat.le_of_ble_eq_true rfl) (Nat.le_of_ble_eq_true rfl) dL_law_0 (fun q0 H hP hD hS => ?_)
  refine lv_dup hx hb dL_law_3 rfl ?_
  refine gCIx (rest := [.ref q0]) (wr := []) (q := q0) (e0 := .inr (5, [.null, .null, .null, .null, .null, .int 0, .int 0])) ⟨hx, hb, hml, hown, hts⟩ (cX5_init_c l D cy tL s.heap.size q0 H.size ⟨hD.2 ([] : va_W).length (q0, .inr (5, [.null, .null, .null, .null, .null, .int 0, .int 0])) (by simp), hS.1⟩) (cwI 0 hts gL_law_X5_init rfl rfl rfl (hts (.initialized RX5) (zl_t1 (List.mem_of_getElem? (i := 1) (by decide +kernel)))) (hts (.methodLink RL 62 yX5_init) (zl_t1 (List.mem_of_getElem? (i := 18) (by decide +kernel)))) (hts (.instanceMethod yX5_init) (zl_t1 (List.mem_of_getElem? (i := 19) (by decide +kernel)))) rfl (by decide +kernel) ⟨Nat.le_of_ble_eq_true rfl, Nat.le_of_ble_eq_true rfl⟩) (fun _ h => h) hA hK hP hD hS hl.1 (Nat.le_of_ble_eq_true rfl) dL_law_4 ⟨Nat.le_of_ble_eq_true rfl, Nat.le_of_ble_eq_true rfl⟩ (fun q t H1 locs ht hpu hBu hk1 hS1 => ?_)
  obtain ⟨e0, h5, i5, f5⟩ := hBu
  rw [ht] at h5
  obtain ⟨hP1, hD1⟩ := gJoin (wr := []) hP hD (fun a h => Nat.le_trans hS.1 h) hk1 (gL_P (E := (fun k => gEr cy q 0 k (iv k) (kd k))) h5) (gL_D i5 f5)
  clear hP hD hS hk1
  subst e0
  have hP : va_P D vwCl (gL 81 q (fun k => gEr cy q 0 k (iv k) (kd k))) H1 := hP1
  have hD : va_D (gA s.heap.size) (gL 81 q (fun k => gEr cy q 0 k (iv k) (kd k))) := hD1
  have hS := hS1
  clear hP1 hD1 hS1
  refine lv_astore_n (lv' := [(1, .ref (q 0)), (0, .ref b)]) hx hb dL_law_7 rfl hl (by decide) rfl (fun ls hl => ?_)
  refine va_new (ci := 6) (fs := [.null, .null, .null, .null, .null, .int 0, .null, .int 0, .int 0, .null, .int 0, .int 0, .int 0, .int 0, .int 0, .int 0, .int 0]) (C := RX6) (T := TX6) (N := 17) hx hb hts zl_wsX60 tyX6 tyX6_ok hown (hts (.classLink RL 63 RX6) (zl_t4 (List.mem_of_getElem? (i := 15) (by decide +kernel)))) (hts (.instantiable RX6 17) (zl_t4 (List.mem_of_getElem? (i := 16) (by decide +kernel)))) (hts (.initialized RX6) (zl_t1 (List.mem_of_getElem? (i := 7) (by decide +kernel)))) hK0 hP hD hS hA rfl (show ∀ j, j < 17 → defaultValue (tyX6 j) = vp_V [.null, .null, .null, .null, .null, .int 0, .null, .int 0, .int 0, .null, .int 0, .int 0, .int 0, .int 0, .int 0, .int 0, .int 0] j by decide +kernel) (Nat.le_of_ble_eq_true rfl) (Nat.le_of_ble_eq_true rfl) dL_law_8 (fun qm0 H hP hD hS => ?_)
  refine lv_dup hx hb dL_law_11 rfl ?_
  refine gCIx (rest := [.ref qm0]) (wr := gL 81 q (fun k => gEr cy q 0 k (iv k) (kd k))) (q := qm0) (e0 := .inr (6, [.null, .null, .null, .null, .null, .int 0, .null, .int 0, .int 0, .null, .int 0, .int 0, .int 0, .int 0, .int 0, .int 0, .int 0])) ⟨hx, hb, hml, hown, hts⟩ (cX6_init_c l D cy tL s.heap.size qm0 H.size ⟨hD.2 (gL 81 q (fun k => gEr cy q 0 k (iv k) (kd k)) : va_W).length (qm0, .inr (6, [.null, .null, .null, .null, .null, .int 0, .null, .int 0, .int 0, .null, .int 0, .int 0, .int 0, .int 0, .int 0, .int 0, .int 0])) (by simp), hS.1⟩) (cwI 0 hts gL_law_X6_init rfl rfl rfl (hts (.initialized RX6) (zl_t1 (List.mem_of_getElem? (i := 7) (by decide +kernel)))) (hts (.methodLink RL 65 yX6_init) (zl_t4 (List.mem_of_getElem? (i := 17) (by decide +kernel)))) (hts (.instanceMethod yX6_init) (zl_t4 (List.mem_of_getElem? (i := 18) (by decide +kernel)))) rfl (by decide +kernel) ⟨Nat.le_of_ble_eq_true rfl, Nat.le_of_ble_eq_true rfl⟩) (fun _ h => h) hA hK hP hD hS hl.1 (Nat.le_of_ble_eq_true rfl) dL_law_12 ⟨Nat.le_of_ble_eq_true rfl, Nat.le_of_ble_eq_true rfl⟩ (fun u t H1 locs ht hpu hBu hk1 hS1 => ?_)
  obtain ⟨qm, fL, fB⟩ := u
  obtain ⟨e6, h6, i6, f6⟩ := hBu
  rw [ht] at h6
  obtain ⟨tabL, tabB⟩ := hpu
  dsimp only at e6 h6 i6 f6 tabL tabB
  obtain ⟨hP1, hD1⟩ := gJoin (wr := gL 81 q (fun k => gEr cy q 0 k (iv k) (kd k))) hP hD (fun a h => Nat.le_trans hS.1 h) hk1 (gL_P (E := (fun j => gEr cy (fun k => qm (k - 81)) 0 (81 + j) (mrow fL fB j) (kd (81 + j)))) h6) (gL_D i6 f6)
  clear hP hD hS hk1
  subst e6
  have hP := hP1
  have hD := hD1
  have hS := hS1
  clear hP1 hD1 hS1
  refine lv_astore_n (lv' := [(2, .ref (qm 0)), (1, .ref (q 0)), (0, .ref b)]) hx hb dL_law_15 rfl hl (by decide) rfl (fun ls hl => ?_)
  refine lv_iconst (v := 1) hx hb dL_law_16 (by decide) ?_
  refine va_newa (atype := .long) (ty := .long) (a0 := (1, .inr (.inl (fun _ => 0)))) (N' := 1) hx hb (hts (.arrayClass .long) (zl_t5 (List.mem_of_getElem? (i := 117) (by decide +kernel)))) rfl hK0 hP hD hS hA (fun _ => rfl) (by decide) (by decide) (by decide) (Nat.le_of_ble_eq_true rfl) (Nat.le_of_ble_eq_true rfl) dL_law_17 (fun qo cA H hKn hP hD hS => ?_)
  have eA := gcy_l hKn
  subst eA
  refine lv_astore_n (lv' := [(3, .ref qo), (2, .ref (qm 0)), (1, .ref (q 0)), (0, .ref b)]) hx hb dL_law_19 rfl hl (by decide) rfl (fun ls hl => ?_)
  refine lv_iconst (v := 0) hx hb dL_law_20 (by decide) ?_
  refine lv_istore (lv' := [(4, .int 0), (3, .ref qo), (2, .ref (qm 0)), (1, .ref (q 0)), (0, .ref b)]) hx hb dL_law_21 hl (by decide) rfl (fun ls hl => ?_)
  have k5 : ∀ k, k < 81 → ((gL 81 q (fun k => gEr cy q 0 k (iv k) (kd k)) ++ gL 8 qm (fun j => gEr cy (fun k => qm (k - 81)) 0 (81 + j) (mrow fL fB j) (kd (81 + j)))) ++ [(qo, .inl (cy 3, (1, .inr (.inl (fun _ => 0)))))])[k]? = some (q k, gEr cy q 0 k (iv k) (kd k)) := fun k hk => by
    rw [List.getElem?_append_left (by rw [List.length_append, gL_len, gL_len]; omega), List.getElem?_append_left (by rw [gL_len]; exact hk)]
    exact gL_at hk
  have k6 : ∀ j, j < 8 → ((gL 81 q (fun k => gEr cy q 0 k (iv k) (kd k)) ++ gL 8 qm (fun j => gEr cy (fun k => qm (k - 81)) 0 (81 + j) (mrow fL fB j) (kd (81 + j)))) ++ [(qo, .inl (cy 3, (1, .inr (.inl (fun _ => 0)))))])[81 + j]? = some (qm j, gEr cy (fun k => qm (k - 81)) 0 (81 + j) (mrow fL fB j) (kd (81 + j))) := fun j hj => by
    rw [List.getElem?_append_left (by rw [List.length_append, gL_len, gL_len]; omega), List.getElem?_append_right (by rw [gL_len]; omega), gL_len, show 81 + j - 81 = j by omega]
    exact gL_at hj
  have k7 : ((gL 81 q (fun k => gEr cy q 0 k (iv k) (kd k)) ++ gL 8 qm (fun j => gEr cy (fun k => qm (k - 81)) 0 (81 + j) (mrow fL fB j) (kd (81 + j)))) ++ [(qo, .inl (cy 3, (1, .inr (.inl (fun _ => 0)))))])[89]? = some (qo, .inl (cy 3, (1, .inr (.inl (fun _ => 0))))) := by
    rw [List.getElem?_append_right (by rw [List.length_append, gL_len, gL_len]; omega), List.length_append, gL_len, gL_len]
    rfl
  obtain ⟨ad, ead⟩ : ∃ ad : Nat → Nat, ad = adof q qm qo := ⟨_, rfl⟩
  have ka : ∀ k, k < 90 → ∃ ee, ((gL 81 q (fun k => gEr cy q 0 k (iv k) (kd k)) ++ gL 8 qm (fun j => gEr cy (fun k => qm (k - 81)) 0 (81 + j) (mrow fL fB j) (kd (81 + j)))) ++ [(qo, .inl (cy 3, (1, .inr (.inl (fun _ => 0)))))])[k]? = some (ad k, ee) := fun k hk => by
    rw [ead]
    unfold adof
    by_cases h1 : k < 81
    · rw [if_pos h1]; exact ⟨_, k5 k h1⟩
    · rw [if_neg h1]
      by_cases h2 : k < 89
      · rw [if_pos h2]
        have h3 := k6 (k - 81) (by omega)
        rw [show 81 + (k - 81) = k by omega] at h3
        exact ⟨_, h3⟩
      · rw [if_neg h2]
        rw [show k = 89 by omega]
        exact ⟨_, k7⟩
  have hI : gI s.heap.size ad := g_addr hD ka
  have hP9 : va_P D vwCl (gW cy ad (v0of fL fB) 0) H := by
    intro k x hx9
    have hk : k < 90 := by
      have := (List.getElem?_eq_some_iff.mp hx9).1
      rw [gW_len] at this
      exact this
    rw [gW_at hk] at hx9
    cases hx9
    by_cases h1 : k < 81
    · by_cases h26 : k = 26
      · subst h26
        have h9 := hP 26 _ (k5 26 (by decide))
        rw [ead]
        show H[q 26]? = some (vp_cell (cy 2) (6, .inr (.inr (.inr (.inr (fun j => some (adof q qm qo (27 + 9 * j))))))))
        rw [g_arr (f2 := fun j => some (q (27 + 9 * j))) (fun j hj => by unfold adof; rw [if_pos (by omega)])]
        exact h9
      rw [ead, ad_5 cy q qm qo fL fB k h1 h26]
      rw [show adof q qm qo k = q k by unfold adof; rw [if_pos h1]]
      exact hP k _ (k5 k h1)
    · by_cases h2 : k < 89
      · obtain ⟨j, rfl⟩ : ∃ j, k = 81 + j := ⟨k - 81, by omega⟩
        rw [ead, ad_6 cy q qm qo fL fB j (by omega)]
        rw [show adof q qm qo (81 + j) = qm j by unfold adof; rw [if_neg h1, if_pos h2, show 81 + j - 81 = j by omega]]
        exact hP (81 + j) _ (k6 j (by omega))
      · obtain rfl : k = 89 := by omega
        have h9 := hP 89 _ k7
        rw [ead]
        show H[qo]? = some (vp_cell (cy 3) (1, .inr (.inl (fun j => if j = 0 then 0 else 0))))
        rw [show (fun j : Nat => if j = 0 then (0 : Int64) else 0) = (fun _ => 0) from funext fun j => by split <;> rfl]
        exact h9
  have hl9 : lv_has ls 7 [(0, .ref b), (1, .ref (ad 0)), (2, .ref (ad 81)), (3, .ref (ad 89)), (4, .int 0)] := by
    rw [ead]
    exact lv_sub hl [4, 3, 2, 1, 0] rfl
  exact hL_law_23 l hst C0 D cy ad tL s.heap.size rfl hI hK 1000 1000 (v0of fL fB) 0 0 H _ _ _ ls hP9 hS hl9 (by decide) (hmain xs L _ hL (init_of tabL tabB))
