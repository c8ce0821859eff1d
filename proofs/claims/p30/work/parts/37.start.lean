/-! from the law's entry to its loop -/
def gL (n : Nat) (q : Nat → Nat) (E : Nat → va_E) : va_W := (List.range n).map (fun k => (q k, E k))
theorem gL_at {n : Nat} {q : Nat → Nat} {E : Nat → va_E} {k : Nat} (h : k < n) : (gL n q E)[k]? = some (q k, E k) := by
  unfold gL
  rw [List.getElem?_map, List.getElem?_range h]
  rfl
theorem gL_len {n : Nat} {q : Nat → Nat} {E : Nat → va_E} : (gL n q E).length = n := by simp [gL]
theorem gL_inv {n : Nat} {q : Nat → Nat} {E : Nat → va_E} {k : Nat} {x : Nat × va_E} (h : (gL n q E)[k]? = some x) : k < n ∧ x = (q k, E k) := by
  have hk : k < n := by
    have := (List.getElem?_eq_some_iff.mp h).1
    rw [gL_len] at this
    exact this
  rw [gL_at hk] at h
  exact ⟨hk, (Option.some.inj h).symm⟩
theorem gL_P {D : va_G} {n : Nat} {q : Nat → Nat} {E : Nat → va_E} {H : Heap} (h : ∀ k, k < n → va_at D vwCl (q k, E k) H) : va_P D vwCl (gL n q E) H := fun k x hx => by
  obtain ⟨hk, rfl⟩ := gL_inv hx
  exact h k hk
theorem gL_D {A : Nat → Prop} {n : Nat} {q : Nat → Nat} {E : Nat → va_E} (h : ∀ i j, i < n → j < n → q i = q j → i = j) (h2 : ∀ k, k < n → A (q k)) : va_D A (gL n q E) := by
  refine ⟨fun i j x y hx hy e => ?_, fun k x hx => ?_⟩
  · obtain ⟨hi, rfl⟩ := gL_inv hx
    obtain ⟨hj, rfl⟩ := gL_inv hy
    exact h i j hi hj e
  · obtain ⟨hk, rfl⟩ := gL_inv hx
    exact h2 k hk
section GX
variable {p : Program} {l : Launch} {e : Env} {R : Room} {s : State} {m : MethodId} {args : Array Value} {below : List Frame} {meth : Method} {c : Code} {H : Heap} {locs : List Loc} {cells slots : Nat} {Q : State → Prop}
variable {cc : ByteArray} {pc : Nat} {ls : Array Slot} {rest st : List Value} {D : va_G} {cy : Nat → ClassId} {tL z0 : Nat} {A : Nat → Prop}
theorem gCIx {S9 : Type} {post : S9 → Prop} {B : S9 → State → Prop} {y : MethodName} {bytes : ByteArray} {maxL nL index mc ms : Nat} {ws Ts : List Cond} {rm : Room} {own : String} {q : Nat} {e0 : va_E} {wr : va_W} (S : CallFix p m c cc nL s args Ts own) (hM : Met l y ws rm (gPi D cy tL z0 q H.size e0) (va_Qv post B (gF q H.size)) mc ms (gF q H.size)) (cw : CallB R s args own index y bytes maxL none ws rm mc ms 0 ∧ y.name = "<init>" ∧ (Cond.instanceMethod y).before args s = true) (hsub : ∀ a, A a → gA z0 a) (hbig : ∀ a, s.heap.size ≤ a → A a) (hK : gK D cy tL z0 s s.heap) (hP : va_P D vwCl (wr ++ [(q, e0)]) H) (hD : va_D A (wr ++ [(q, e0)])) (hS : va_S A s.heap H locs) (hsz : ls.size = nL) (hw : (rest.map fun v => v.category).sum ≤ 8) (hdg : decode cc pc = .ok (.invokespecial index, 3)) (hf : cells + mc ≤ R.cells ∧ slots + ms ≤ R.slots)
    (kk : ∀ (u : S9) (t : State) (H1 : Heap) (locs1 : List Loc), t.heap = H1 → post u → B u t → (∀ a : Nat, a < H.size → ¬ gF q H.size a → H1[a]? = H[a]?) → va_S A s.heap H1 locs1 → W p l e R s m args below meth c H1 locs1 (cells + mc) (slots + ms) Q (F0 m (pc + 3) ls rest)) : W p l e R s m args below meth c H locs cells slots Q (F0 m pc ls (.ref q :: rest)) := by
  have hq : (wr ++ [(q, e0)])[wr.length]? = some (q, e0) := by simp
  have hAq : A q := hD.2 wr.length (q, e0) hq
  have hf9 : ∀ a, gF q H.size a → A a := fun a h => by
    rcases h with h | h
    · rw [h]; exact hAq
    · exact hbig a (Nat.le_trans hS.1 h)
  exact va_callv (va_runI (As := []) (rest := rest) S hM cw ⟨gBlindI _ _ _, fun U hU hW => ⟨rfl, by rw [hU], by rw [hU]; exact fun k x hx => hP (wr.length + k) x (by rw [List.getElem?_append_right (by omega), show wr.length + k - wr.length = k by omega]; exact hx), gK_of hsub hK hS hU hW⟩⟩ rfl rfl hsz rfl (lv_room hw) hdg hf) hS (fun a _ h => hf9 a h) hf9 (fun u t H1 locs1 ht hvm hp hB hz1 hk1 hS1 => kk u t H1 locs1 ht hp hB hk1 hS1)
end GX
/-- how the picture begins -/
def Init (v : gV) : Prop := ∀ k, k < 81 → v k = iv k
theorem ad_5 (cy : Nat → ClassId) (q : Nat → Nat) : ∀ k, k < 81 → (k ≠ 26 → gEr cy q 0 k (iv k) (kd k) = gEr cy q 0 k (iv k) (kd k)) := fun _ _ _ => rfl
theorem ar_of {s : State} {args : Array Value} {ty : FieldType} (h : (Cond.arrayClass ty).before args s = true) : ∃ cA, ArrOfT s cA ty ∧ s.vm.findClass ("[" ++ ty.toString) = some cA := by
  obtain ⟨cA, k, comp, h1, h2, h3⟩ := Cond.arrayClass_spec h
  exact ⟨cA, fun n z => ⟨fun k h => (by cases h), k, h2, comp, h3⟩, h1⟩
theorem ao_of {s : State} {args : Array Value} {C : String} (h : (Cond.arrayOver (.object C)).before args s = true) : ∃ cA, ArrOfT s cA (.object C) ∧ va_RA s cA (.object C) := by
  obtain ⟨comp, cA, k, h1, h2, h3, h4, h5⟩ := Cond.arrayOver_spec h
  exact ⟨cA, fun n z => ⟨fun k h => (by cases h), k, h3, comp, h4⟩, k, comp, h3, h4, h1, h5⟩
set_option maxHeartbeats 8000000 in
set_option maxRecDepth 100000 in
theorem start_of (hmain : ∀ (xs : Nat → Int32) (L : Nat) (v : gV), L ≤ 260 → Init v → sL_law_10 1000 xs L 1000 v 0 = some 1) {p : Program} {e : Env} {s : State} {m : MethodId} {below : List Frame} {meth : Method} {c : Code} (l : Launch) (hflags : l.flags = flags0) {b L : Nat} {xs : Nat → Int32} (hL : L ≤ 260) (C0 : lw_At p s m meth c b L xs) : W p l e room_1 s m #[Value.ref b] below meth c s.heap [] 0 0 (lw_Z below #[Value.ref b] s) (entryFrame m ([Value.ref b] : List Value).toArray 7) := by
  obtain ⟨hx, hb, hr, hml, hown, hts, hX, hbl, hlocks, hgv⟩ := id C0
  have hA : ∀ q : Nat, s.heap.size ≤ q → gA s.heap.size q := fun _ h => h
  have hnA : ∀ a : Nat, a < s.heap.size → ¬ gA s.heap.size a := fun a h z => absurd (show s.heap.size ≤ a from z) (Nat.not_le.mpr h)
  obtain ⟨c0, iS0, hKn0⟩ := u_known (C := RX0) (T := TX0) (N := 2) (n := 2) hts zl_wsX00 (hts (.instantiable RX0 2) (zl_t1 (List.mem_of_getElem? (i := 24) (by decide +kernel))))
  obtain ⟨c1, iS1, hKn1⟩ := u_known (C := RX1) (T := TX1) (N := 8) (n := 8) hts zl_wsX10 (hts (.instantiable RX1 8) (zl_t1 (List.mem_of_getElem? (i := 45) (by decide +kernel))))
  obtain ⟨c2, iS2, hKn2⟩ := u_known (C := RX2) (T := TX2) (N := 3) (n := 3) hts zl_wsX20 (hts (.instantiable RX2 3) (zl_t1 (List.mem_of_getElem? (i := 39) (by decide +kernel))))
  obtain ⟨c3, iS3, hKn3⟩ := u_known (C := RX3) (T := TX3) (N := 9) (n := 9) hts zl_wsX30 (hts (.instantiable RX3 9) (zl_t1 (List.mem_of_getElem? (i := 96) (by decide +kernel))))
  obtain ⟨c4, iS4, hKn4⟩ := u_known (C := RX4) (T := TX4) (N := 6) (n := 6) hts zl_wsX40 (hts (.instantiable RX4 6) (zl_t1 (List.mem_of_getElem? (i := 102) (by decide +kernel))))
  obtain ⟨c5, iS5, hKn5⟩ := u_known (C := RX5) (T := TX5) (N := 7) (n := 7) hts zl_wsX50 (hts (.instantiable RX5 7) (zl_t1 (List.mem_of_getElem? (i := 16) (by decide +kernel))))
  obtain ⟨D, hKc⟩ : ∃ D : va_G, ∀ (k : Nat) (q : vw_C), vwCl[k]? = some q → u_Kn s q.1 q.2.1 q.2.2 (D.1 k) (D.2 k) := by
    refine ⟨(fun k => if k = 0 then c0 else if k = 1 then c1 else if k = 2 then c2 else if k = 3 then c3 else if k = 4 then c4 else c5, fun k => if k = 0 then iS0 else if k = 1 then iS1 else if k = 2 then iS2 else if k = 3 then iS3 else if k = 4 then iS4 else iS5), ?_⟩
    intro k q hq
    match k, hq with
    | 0, hq => cases hq; exact hKn0
    | 1, hq => cases hq; exact hKn1
    | 2, hq => cases hq; exact hKn2
    | 3, hq => cases hq; exact hKn3
    | 4, hq => cases hq; exact hKn4
    | 5, hq => cases hq; exact hKn5
    | k + 6, hq => simp [vwCl] at hq
  obtain ⟨cI, aI, rI⟩ := ar_of (hts (.arrayClass .int) (zl_t1 (List.mem_of_getElem? (i := 83) (by decide +kernel))))
  obtain ⟨cC, aC, rC9⟩ := ar_of (hts (.arrayClass .char) (zl_t1 (List.mem_of_getElem? (i := 37) (by decide +kernel))))
  have hAO := (hts (.arrayOver (.object "AdventureParser$State")) (zl_t1 (List.mem_of_getElem? (i := 169) (by decide +kernel))))
  obtain ⟨cS, aS, rS9⟩ := ao_of hAO
  obtain ⟨cy, ecy⟩ : ∃ cy : Nat → ClassId, cy = (fun k => if k = 0 then cI else if k = 1 then cC else cS) := ⟨_, rfl⟩
  have hK0 : va_K D vwCl (gT cy) s := by
    refine ⟨hKc, fun k q hq => ?_⟩
    subst ecy
    match k, hq with
    | 0, hq => cases hq; exact ⟨aI, rI⟩
    | 1, hq => cases hq; exact ⟨aC, rC9⟩
    | 2, hq => cases hq; exact ⟨aS, rS9⟩
    | k + 3, hq => simp [gT] at hq
  have hfl := flat_of_before _ hgv
  have harr : (Cond.arrayOf (.static "AdventureParser" "LETTERS" "[C") .char).before #[Value.ref b] s = true := hfl _ (by decide +kernel)
  have hlen : (Cond.eq (.length (.static "AdventureParser" "LETTERS" "[C")) (.int 125)).before #[Value.ref b] s = true := hfl _ (by decide +kernel)
  have hel : ∀ j : Nat, j < 125 → (Cond.eq (.elem (.static "AdventureParser" "LETTERS" "[C") (.int (Int32.ofNat j))) (.int (gLet.getD j 0))).before #[Value.ref b] s = true := fun j hj => hfl _ ((show ∀ j : Nat, j < 125 → (Cond.eq (.elem (.static "AdventureParser" "LETTERS" "[C") (.int (Int32.ofNat j))) (.int (gLet.getD j 0))) ∈ flatC (Jvm.Cond.and given_1 narrow_1) by decide +kernel) j hj)
  obtain ⟨tL, htv, htT⟩ := va_Tof (N := 125) (f := gLetV) (A := gA s.heap.size) (by decide) harr (va_eqt hlen) (fun j hj => va_eqt (hel j hj)) hnA
  have hZL := va_Zof (A := gA s.heap.size) (hts (.laysStatic "AdventureParser" "LETTERS" "[C") (zl_t2 (List.mem_of_getElem? (i := 187) (by decide +kernel)))) (hts (.initialized RX5) (zl_t1 (List.mem_of_getElem? (i := 1) (by decide +kernel)))) htv hnA
  have hK : gK D cy tL s.heap.size s s.heap := by
    refine ⟨hK0, hZL, htT, fun w hw => ?_, va_AO.of hAO⟩
    · unfold gNest at hw
      simp only [List.mem_cons, List.not_mem_nil, or_false] at hw
      rcases hw with rfl | rfl | rfl | rfl | rfl | rfl | rfl | rfl | rfl | rfl | rfl | rfl | rfl | rfl | rfl | rfl
      · exact va_Nw.of rfl (hts (.methodLinkNest RX4 38 yX5_isContainerNoun RX5) (zl_t2 (List.mem_of_getElem? (i := 121) (by decide +kernel))))
      · exact va_Nw.of rfl (hts (.methodLinkNest RX4 31 yX5_isRoom RX5) (zl_t2 (List.mem_of_getElem? (i := 119) (by decide +kernel))))
      · exact va_Nw.of rfl (hts (.methodLinkNest RX2 63 yX5_isNoun RX5) (zl_t3 (List.mem_of_getElem? (i := 95) (by decide +kernel))))
      · exact va_Nw.of rfl (hts (.methodLinkNest RX2 60 yX5_isAdjectiveWord RX5) (zl_t3 (List.mem_of_getElem? (i := 92) (by decide +kernel))))
      · exact va_Nw.of rfl (hts (.methodLinkNest RX2 57 yX5_isVerbWord RX5) (zl_t3 (List.mem_of_getElem? (i := 86) (by decide +kernel))))
      · exact va_Nw.of rfl (hts (.methodLinkNest RX1 52 yX5_isAdjectiveWord RX5) (zl_t3 (List.mem_of_getElem? (i := 121) (by decide +kernel))))
      · exact va_Nw.of rfl (hts (.methodLinkNest RX1 45 yX5_isNoun RX5) (zl_t3 (List.mem_of_getElem? (i := 109) (by decide +kernel))))
      · exact va_Nw.of rfl (hts (.methodLinkNest RX1 42 yX5_isVerbWord RX5) (zl_t3 (List.mem_of_getElem? (i := 108) (by decide +kernel))))
      · exact va_Nw.of rfl (hts (.methodLinkNest RX0 27 yX5_letterOf RX5) (zl_t3 (List.mem_of_getElem? (i := 73) (by decide +kernel))))
      · exact va_Nw.of rfl (hts (.methodLinkNest RX0 23 yX5_lengthOf RX5) (zl_t3 (List.mem_of_getElem? (i := 68) (by decide +kernel))))
      · exact va_Nw.of rfl (hts (.methodLinkNest RX5 25 yX3_init RX5) (zl_t1 (List.mem_of_getElem? (i := 97) (by decide +kernel))))
      · exact va_Nw.of rfl (hts (.methodLinkNest RX5 18 yX2_init RX5) (zl_t1 (List.mem_of_getElem? (i := 40) (by decide +kernel))))
      · exact va_Nw.of rfl (hts (.methodLinkNest RX5 11 yX0_init RX5) (zl_t1 (List.mem_of_getElem? (i := 25) (by decide +kernel))))
      · exact va_Nw.of rfl (hts (.methodLinkNest RX3 20 yX1_init RX5) (zl_t1 (List.mem_of_getElem? (i := 133) (by decide +kernel))))
      · exact va_Nw.of rfl (hts (.methodLinkNest RX3 11 yX4_init RX5) (zl_t1 (List.mem_of_getElem? (i := 103) (by decide +kernel))))
      · exact va_Nw.of rfl (hts (.methodLinkNest RX2 11 yX1_init RX5) (zl_t1 (List.mem_of_getElem? (i := 46) (by decide +kernel))))
  have hS : va_S (gA s.heap.size) s.heap s.heap [] := va_S.rf
  have hP : va_P D vwCl ([] : va_W) s.heap := fun k q h => by simp at h
  have hD : va_D (gA s.heap.size) ([] : va_W) := ⟨fun i j p q h => by simp at h, fun k q h => by simp at h⟩
  have hl := lv_entry ([.ref b]) (n := 7) (Nat.le_of_ble_eq_true rfl)
  rw [lg_entry_eq]
  generalize (lg_sl ([.ref b]) ++ List.replicate (7 - (lg_sl ([.ref b])).length) Slot.unset).toArray = ls at hl ⊢
  have hl : lv_has ls 7 [(0, .ref b)] := hl
  refine va_new (ci := 5) (fs := [.null, .null, .null, .null, .null, .int 0, .int 0]) (C := RX5) (T := TX5) (N := 7) hx hb hts zl_wsX50 tyX5 tyX5_ok hown (hts (.classLink RL 9 RX5) (zl_t1 (List.mem_of_getElem? (i := 15) (by decide +kernel)))) (hts (.instantiable RX5 7) (zl_t1 (List.mem_of_getElem? (i := 16) (by decide +kernel)))) (hts (.initialized RX5) (zl_t1 (List.mem_of_getElem? (i := 1) (by decide +kernel)))) hK0 hP hD hS hA rfl (show ∀ j, j < 7 → defaultValue (tyX5 j) = vp_V [.null, .null, .null, .null, .null, .int 0, .int 0] j by decide +kernel) (Nat.le_of_ble_eq_true rfl) (Nat.le_of_ble_eq_true rfl) dL_law_0 (fun q0 H hP hD hS => ?_)
  refine lv_dup hx hb dL_law_3 rfl ?_
  refine gCIx (rest := [.ref q0]) (wr := []) (q := q0) (e0 := .inr (5, [.null, .null, .null, .null, .null, .int 0, .int 0])) ⟨hx, hb, hml, hown, hts⟩ (cX5_init_c l D cy tL s.heap.size q0 H.size ⟨hD.2 ([] : va_W).length (q0, .inr (5, [.null, .null, .null, .null, .null, .int 0, .int 0])) (by simp), hS.1⟩) (cwI 0 hts gL_law_X5_init rfl rfl rfl (hts (.initialized RX5) (zl_t1 (List.mem_of_getElem? (i := 1) (by decide +kernel)))) (hts (.methodLink RL 114 yX5_init) (zl_t1 (List.mem_of_getElem? (i := 17) (by decide +kernel)))) (hts (.instanceMethod yX5_init) (zl_t1 (List.mem_of_getElem? (i := 18) (by decide +kernel)))) rfl (by decide +kernel) ⟨Nat.le_of_ble_eq_true rfl, Nat.le_of_ble_eq_true rfl⟩) (fun _ h => h) hA hK hP hD hS hl.1 (Nat.le_of_ble_eq_true rfl) dL_law_4 ⟨Nat.le_of_ble_eq_true rfl, Nat.le_of_ble_eq_true rfl⟩ (fun q t H1 locs ht hpu hBu hk1 hS1 => ?_)
  obtain ⟨e0, h5, i5, f5⟩ := hBu
  rw [ht] at h5
  obtain ⟨hP1, hD1⟩ := gJoin (wr := []) hP hD (fun a h => Nat.le_trans hS.1 h) hk1 (gL_P (E := (fun k => gEr cy q 0 k (iv k) (kd k))) h5) (gL_D i5 f5)
  clear hP hD hS hk1
  subst e0
  have hP : va_P D vwCl (gL 81 q (fun k => gEr cy q 0 k (iv k) (kd k))) H1 := hP1
  have hD : va_D (gA s.heap.size) (gL 81 q (fun k => gEr cy q 0 k (iv k) (kd k))) := hD1
  have hS := hS1
  clear hP1 hD1 hS1
  refine lv_astore_n (lv' := [(1, .ref (q 0)), (0, .ref b)]) hx hb dL_law_7 rfl hl (by decide) rfl (fun ls hl => ?_)
  refine lv_iconst (v := 0) hx hb dL_law_8 (by decide) ?_
  refine lv_istore_n (lv' := [(2, .int 0), (1, .ref (q 0)), (0, .ref b)]) hx hb dL_law_9 rfl hl (by decide) rfl (fun ls hl => ?_)
  have hI : gI s.heap.size q := g_addr hD (fun k hk => ⟨_, gL_at hk⟩)
  have hP9 : va_P D vwCl (gW cy q iv 0) H1 := hP
  have hl9 : lv_has ls 7 [(0, .ref b), (1, .ref (q 0)), (2, .int 0)] := lv_sub hl [2, 1, 0] rfl
  exact hL_law_10 l C0 D cy q tL s.heap.size rfl hI hK 0 _ _ (by decide) 1000 1000 iv 0 H1 _ ls hP9 hS hl9 (hmain xs L _ hL (fun _ _ => rfl))
