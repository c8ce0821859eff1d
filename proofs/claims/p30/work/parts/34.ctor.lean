/-! constructors: what a new object and its parts are -/
def gF (h0 sz : Nat) : Nat → Prop := fun a => a = h0 ∨ sz ≤ a
def gG (cy : Nat → ClassId) (ks : List Nat) (rows : Nat → Nat → Int32) (q : Nat → Nat) : va_W := (List.range ks.length).map (fun j => (q j, gEr cy q 0 j (rows j) (ks.getD j 99)))
def rZ : Nat → Nat → Int32 := fun _ _ => 0
def rC : Nat → Nat → Int32 := fun j i => if j = 0 then (if i = 3 then -1 else 0) else 0
def rR : Nat → Nat → Int32 := fun j i => if j = 1 then (if i = 3 then -1 else 0) else 0
def rS : Nat → Nat → Int32 := fun j i => if j = 0 then (if i = 2 then -1 else if i = 8 then -1 else 0) else if j = 5 then (if i = 3 then -1 else 0) else 0
abbrev gPi (D : va_G) (cy : Nat → ClassId) (tL z0 h0 sz : Nat) (e : va_E) : Array Value → State → Prop := va_Pc [.ref h0] (fun U => U.heap.size = sz ∧ va_P D vwCl [(h0, e)] U.heap ∧ gK D cy tL z0 U U.heap)
abbrev gQg (D : va_G) (cy : Nat → ClassId) (ks : List Nat) (rows : Nat → Nat → Int32) (h0 sz : Nat) : Array Value → State → Outcome → State → Prop := va_Qv (fun _ : Nat → Nat => True) (fun q t => q 0 = h0 ∧ va_P D vwCl (gG cy ks rows q) t.heap ∧ va_D (gF h0 sz) (gG cy ks rows q)) (gF h0 sz)
theorem gcy_i {D : va_G} {cy : Nat → ClassId} {s : State} {cA : ClassId} (h : va_K D vwCl (gT cy ++ [(cA, .int)]) s) : cA = cy 0 := by
  have h1 : s.vm.findClass ("[" ++ FieldType.int.toString) = some cA := (h.2 3 (cA, .int) rfl).2
  have h2 : s.vm.findClass ("[" ++ FieldType.int.toString) = some (cy 0) := (h.2 0 (cy 0, .int) rfl).2
  exact Option.some.inj (h1.symm.trans h2)
theorem gcy_c {D : va_G} {cy : Nat → ClassId} {s : State} {cA : ClassId} (h : va_K D vwCl (gT cy ++ [(cA, .char)]) s) : cA = cy 1 := by
  have h1 : s.vm.findClass ("[" ++ FieldType.char.toString) = some cA := (h.2 3 (cA, .char) rfl).2
  have h2 : s.vm.findClass ("[" ++ FieldType.char.toString) = some (cy 1) := (h.2 1 (cy 1, .char) rfl).2
  exact Option.some.inj (h1.symm.trans h2)
theorem gcy_s {D : va_G} {cy : Nat → ClassId} {s : State} {cA : ClassId} (h : va_K D vwCl (gT cy ++ [(cA, .object RX3)]) s) : cA = cy 2 := by
  obtain ⟨_, _, _, _, _, h1⟩ := (h.2 3 (cA, .object RX3) rfl).2
  obtain ⟨_, _, _, _, _, h2⟩ := (h.2 2 (cy 2, .object RX3) rfl).2
  exact Option.some.inj (h1.symm.trans h2)
theorem gD1 {h0 sz : Nat} {e : va_E} : va_D (gF h0 sz) [(h0, e)] := by
  refine ⟨fun i j p q hp hq _ => ?_, fun k q hq => ?_⟩
  · have h1 := (List.getElem?_eq_some_iff.mp hp).1
    have h2 := (List.getElem?_eq_some_iff.mp hq).1
    simp at h1 h2
    omega
  · have h1 := (List.getElem?_eq_some_iff.mp hq).1
    simp at h1
    subst h1
    cases hq
    exact Or.inl rfl
section GC
variable {p : Program} {l : Launch} {e : Env} {R : Room} {s : State} {m : MethodId} {args : Array Value} {below : List Frame} {meth : Method} {c : Code} {H : Heap} {locs : List Loc} {cells slots : Nat} {Q : State → Prop}
variable {cc : ByteArray} {pc : Nat} {ls : Array Slot} {rest st : List Value} {D : va_G} {cy : Nat → ClassId} {tL z0 : Nat} {A : Nat → Prop}
theorem gK_of {U : State} (hsub : ∀ a, A a → gA z0 a) (hK : gK D cy tL z0 s s.heap) (hS : va_S A s.heap H locs) (hU : U.heap = H) (hW : s.WarmedH U.vm) : gK D cy tL z0 U U.heap := by
  obtain ⟨k1, k2, k3, k4, x6⟩ := hK
  have hq : ∀ a : Nat, a < s.heap.size → ¬ gA z0 a → H[a]? = s.heap[a]? := fun a h1 h2 => hS.2.1 a h1 (fun z => h2 (hsub a z))
  refine ⟨k1.moved hW.alike, ?_, ?_, gNest_warm hW k4, x6.moved hW.alike⟩
  · rw [hU]; exact (k2.kept hq).moved hW.alike
  · rw [hU]; exact (k3.kept hq).moved hW.alike
theorem gBlindI (h0 sz : Nat) (e0 : va_E) : FrameBlind (gPi D cy tL z0 h0 sz e0) := by
  intro a U g mk q
  obtain ⟨q0, q1, q2, k1, k2, k3, k4, x6⟩ := q
  have al : U.vm.Alike (U.calling g mk a).vm := Vm.Alike.refl U.vm
  exact ⟨q0, q1, q2, va_K.moved (u := U) (U := U.calling g mk a) al k1, k2.moved (u := U) (U := U.calling g mk a) al, k3.moved (u := U) (U := U.calling g mk a) al, gNest_same (s := U) (U := U.calling g mk a) rfl k4, x6.moved (u := U) (U := U.calling g mk a) al⟩
theorem gJoin {A : Nat → Prop} {wr w1 : va_W} {q : Nat} {e0 : va_E} {H1 : Heap} (hP : va_P D vwCl (wr ++ [(q, e0)]) H) (hD : va_D A (wr ++ [(q, e0)])) (hbig : ∀ a, H.size ≤ a → A a) (hk : ∀ a : Nat, a < H.size → ¬ gF q H.size a → H1[a]? = H[a]?) (hP1 : va_P D vwCl w1 H1) (hD1 : va_D (gF q H.size) w1) : va_P D vwCl (wr ++ w1) H1 ∧ va_D A (wr ++ w1) := by
  have hq : (wr ++ [(q, e0)])[wr.length]? = some (q, e0) := by simp
  have hl : ∀ (k : Nat) (x : Nat × va_E), wr[k]? = some x → (wr ++ [(q, e0)])[k]? = some x := fun k x hx => by
    rw [List.getElem?_append_left (List.getElem?_eq_some_iff.mp hx).1]; exact hx
  have apart : ∀ (k : Nat) (x : Nat × va_E), wr[k]? = some x → x.1 < H.size ∧ ¬ gF q H.size x.1 := by
    intro k x hx
    have h1 := (hP k x (hl k x hx)).lt
    refine ⟨h1, fun z => ?_⟩
    rcases z with z | z
    · have := hD.1 k wr.length x (q, e0) (hl k x hx) hq z
      have h2 := (List.getElem?_eq_some_iff.mp hx).1
      omega
    · omega
  have hAq : A q := hD.2 wr.length (q, e0) hq
  refine ⟨va_P.app (fun k x hx => (hP k x (hl k x hx)).kept (hk x.1 (apart k x hx).1 (apart k x hx).2)) hP1, va_D.app ⟨fun i j x y hx hy hxy => hD.1 i j x y (hl i x hx) (hl j y hy) hxy, fun k x hx => hD.2 k x (hl k x hx)⟩ (hD1.weaken (fun k x _ h => ?_)) (fun i j x y hx hy hxy => ?_)⟩
  · rcases h with h | h
    · rw [h]; exact hAq
    · exact hbig _ h
  · exact (apart i x hx).2 (by rw [hxy]; exact hD1.2 j y hy)
theorem gCIN {y : MethodName} {bytes : ByteArray} {maxL nL index mc ms : Nat} {ws Ts : List Cond} {rm : Room} {own host : String} {q : Nat} {e0 : va_E} {wr : va_W} {ks : List Nat} {rows : Nat → Nat → Int32} (S : CallFix p m c cc nL s args Ts own) (hM : Met l y ws rm (gPi D cy tL z0 q H.size e0) (gQg D cy ks rows q H.size) mc ms (gF q H.size)) (cw : va_CN R s args own index y host bytes maxL none ws rm mc ms 0 ∧ y.name = "<init>" ∧ (Cond.instanceMethod y).before args s = true) (hsub : ∀ a, A a → gA z0 a) (hbig : ∀ a, s.heap.size ≤ a → A a) (hK : gK D cy tL z0 s s.heap) (hP : va_P D vwCl (wr ++ [(q, e0)]) H) (hD : va_D A (wr ++ [(q, e0)])) (hS : va_S A s.heap H locs) (hsz : ls.size = nL) (hw : (rest.map fun v => v.category).sum ≤ 8) (hdg : decode cc pc = .ok (.invokespecial index, 3)) (hf : cells + mc ≤ R.cells ∧ slots + ms ≤ R.slots)
    (kk : ∀ (r : Nat → Nat) (H1 : Heap) (locs1 : List Loc), r 0 = q → va_P D vwCl (wr ++ gG cy ks rows r) H1 → va_D A (wr ++ gG cy ks rows r) → va_S A s.heap H1 locs1 → W p l e R s m args below meth c H1 locs1 (cells + mc) (slots + ms) Q (F0 m (pc + 3) ls rest)) : W p l e R s m args below meth c H locs cells slots Q (F0 m pc ls (.ref q :: rest)) := by
  have hq : (wr ++ [(q, e0)])[wr.length]? = some (q, e0) := by simp
  have hAq : A q := hD.2 wr.length (q, e0) hq
  have hf9 : ∀ a, gF q H.size a → A a := fun a h => by
    rcases h with h | h
    · rw [h]; exact hAq
    · exact hbig a (Nat.le_trans hS.1 h)
  refine va_callv (va_runIN (As := []) (rest := rest) S hM cw ⟨gBlindI _ _ _, fun U hU hW => ⟨rfl, by rw [hU], by rw [hU]; exact fun k x hx => hP (wr.length + k) x (by rw [List.getElem?_append_right (by omega), show wr.length + k - wr.length = k by omega]; exact hx), gK_of hsub hK hS hU hW⟩⟩ rfl rfl hsz rfl (lv_room hw) hdg hf) hS (fun a _ h => hf9 a h) hf9 (fun r t H1 locs1 ht hvm _ hB hz1 hk1 hS1 => ?_)
  obtain ⟨r0, hP1, hD1⟩ := hB
  rw [ht] at hP1
  obtain ⟨hP2, hD2⟩ := gJoin hP hD (fun a h => hbig a (Nat.le_trans hS.1 h)) hk1 hP1 hD1
  exact kk r H1 locs1 r0 hP2 hD2 hS1
theorem gCI0 {y : MethodName} {bytes : ByteArray} {maxL nL index mc ms : Nat} {ws Ts : List Cond} {rm : Room} {own host : String} {q : Nat} {e0 : va_E} {wr : va_W} {ks : List Nat} {rows : Nat → Nat → Int32} (S : CallFix p m c cc nL s args Ts own) (hM : Met l y ws rm (gPi D cy tL z0 q H.size e0) (gQg D cy ks rows q H.size) mc ms (gF q H.size)) (cw : CallB R s args own index y bytes maxL none ws rm mc ms 0 ∧ y.name = "<init>" ∧ (Cond.instanceMethod y).before args s = true) (hsub : ∀ a, A a → gA z0 a) (hbig : ∀ a, s.heap.size ≤ a → A a) (hK : gK D cy tL z0 s s.heap) (hP : va_P D vwCl (wr ++ [(q, e0)]) H) (hD : va_D A (wr ++ [(q, e0)])) (hS : va_S A s.heap H locs) (hsz : ls.size = nL) (hw : (rest.map fun v => v.category).sum ≤ 8) (hdg : decode cc pc = .ok (.invokespecial index, 3)) (hf : cells + mc ≤ R.cells ∧ slots + ms ≤ R.slots)
    (kk : ∀ (r : Nat → Nat) (H1 : Heap) (locs1 : List Loc), r 0 = q → va_P D vwCl (wr ++ gG cy ks rows r) H1 → va_D A (wr ++ gG cy ks rows r) → va_S A s.heap H1 locs1 → W p l e R s m args below meth c H1 locs1 (cells + mc) (slots + ms) Q (F0 m (pc + 3) ls rest)) : W p l e R s m args below meth c H locs cells slots Q (F0 m pc ls (.ref q :: rest)) := by
  have hq : (wr ++ [(q, e0)])[wr.length]? = some (q, e0) := by simp
  have hAq : A q := hD.2 wr.length (q, e0) hq
  have hf9 : ∀ a, gF q H.size a → A a := fun a h => by
    rcases h with h | h
    · rw [h]; exact hAq
    · exact hbig a (Nat.le_trans hS.1 h)
  refine va_callv (va_runI (As := []) (rest := rest) S hM cw ⟨gBlindI _ _ _, fun U hU hW => ⟨rfl, by rw [hU], by rw [hU]; exact fun k x hx => hP (wr.length + k) x (by rw [List.getElem?_append_right (by omega), show wr.length + k - wr.length = k by omega]; exact hx), gK_of hsub hK hS hU hW⟩⟩ rfl rfl hsz rfl (lv_room hw) hdg hf) hS (fun a _ h => hf9 a h) hf9 (fun r t H1 locs1 ht hvm _ hB hz1 hk1 hS1 => ?_)
  obtain ⟨r0, hP1, hD1⟩ := hB
  rw [ht] at hP1
  obtain ⟨hP2, hD2⟩ := gJoin hP hD (fun a h => hbig a (Nat.le_trans hS.1 h)) hk1 hP1 hD1
  exact kk r H1 locs1 r0 hP2 hD2 hS1
end GC
theorem gz {z0 h0 q : Nat} {s : State} {wr : va_W} {e0 : va_E} {H : Heap} {locs : List Loc} (hsub : ∀ a, gF h0 s.heap.size a → gA z0 a) (hA : ∀ a, s.heap.size ≤ a → gF h0 s.heap.size a) (hD : va_D (gF h0 s.heap.size) (wr ++ [(q, e0)])) (hS : va_S (gF h0 s.heap.size) s.heap H locs) : z0 ≤ q ∧ z0 ≤ H.size :=
  ⟨hsub q (hD.2 wr.length (q, e0) (by simp)), hsub _ (hA _ hS.1)⟩
set_option maxHeartbeats 8000000 in
set_option maxRecDepth 100000 in
theorem cX0_init_c (l : Launch) (D : va_G) (cy : Nat → ClassId) (tL z0 h0 sz : Nat) (hz : z0 ≤ h0 ∧ z0 ≤ sz) : Met l yX0_init wsX0_init ({ frames := 1, cells := 1, slots := 60, locals := 12 } : Room) (gPi D cy tL z0 h0 sz (.inr (0, [.null, .int 0]))) (gQg D cy [0, 10] rZ h0 sz) 1 60 (gF h0 sz) := by
  refine Met.ofW (cc := cX0_init) (maxL := 1) (ret := none) (by decide) rfl ?_
  intro p e s m args below meth c s₁ B hml hv
  obtain ⟨rfl, hsz, hP, hK⟩ := hv
  have hx := B.exec
  have hb := B.bytes
  have hr := B.returns
  have hts := atoms_spec (ws := wsX0_init) B.pre
  have hown : s.vm.findClass RX0 = some m.cls := findClass_of_methodNamed B.named
  have hlocks := B.notSynchronized
  have hin : meth.name = "<init>" := (name_of_methodNamed B.named B.method).1
  subst hsz
  have hD : va_D (gF h0 s.heap.size) [(h0, .inr (0, [.null, .int 0]))] := gD1
  have hA : ∀ q : Nat, s.heap.size ≤ q → gF h0 s.heap.size q := fun q h => Or.inr h
  have hS : va_S (gF h0 s.heap.size) s.heap s.heap [] := va_S.rf
  have hsub : ∀ a, gF h0 s.heap.size a → gA z0 a := fun a h => h.elim (fun q => by rw [q]; exact hz.1) (fun q => Nat.le_trans hz.2 q)
  have hP : va_P D vwCl [(h0, .inr (0, [.null, .int 0]))] s.heap := hP
  have hin9 : ∀ w ∈ u_ws RX0 TX0 2, w ∈ wsX0_init := by decide +kernel
  have hl := lv_entry ([.ref h0]) (n := 1) (Nat.le_of_ble_eq_true rfl)
  rw [lg_entry_eq]
  generalize (lg_sl ([.ref h0]) ++ List.replicate (1 - (lg_sl ([.ref h0])).length) Slot.unset).toArray = ls at hl ⊢
  have hl : lv_has ls 1 [(0, .ref h0)] := hl
  refine lv_aload_n hx hb dX0_init_0 rfl (lv_at hl 0 rfl) ?_
  refine W.objInit hx hb hown (hts (.methodLink RX0 3 objectInit) (by decide +kernel)) (hts (.instanceMethod objectInit) (by decide +kernel)) (hts (.code objectInit ⟨#[0xb1]⟩ 1 none) (by decide +kernel)) rfl (by rw [hml]; exact hl.1) rfl dX0_init_1 (Nat.le_of_ble_eq_true rfl) (Nat.le_of_ble_eq_true rfl) ?_
  refine W.eq (g2 := F0 m 4 ls []) rfl ?_
  refine lv_aload_n hx hb dX0_init_4 rfl (lv_at hl 0 rfl) ?_
  refine lv_bipush (v := 60) hx hb dX0_init_5 (by decide) ?_
  refine va_newa (atype := .char) (ty := .char) (a0 := (60, .inl (fun _ => 0))) (N' := 60) hx hb (hts (.arrayClass .char) (by decide +kernel)) rfl hK.1 hP hD hS hA (fun _ => rfl) (by decide) (by decide) (by decide) (Nat.le_of_ble_eq_true rfl) (Nat.le_of_ble_eq_true rfl) dX0_init_7 (fun q7 cA H hKn hP hD hS => ?_)
  have eA := gcy_c hKn
  subst eA
  have hP : va_P D vwCl ([(h0, .inr (0, [.null, .int 0])), (q7, .inl (cy 1, 60, .inl (fun _ => 0)))]) H := hP
  have hD : va_D (gF h0 s.heap.size) ([(h0, .inr (0, [.null, .int 0])), (q7, .inl (cy 1, 60, .inl (fun _ => 0)))]) := hD
  refine va_putF (D := D) (ci := 0) (v := .ref q7) (ty := .array .char) (C := RX0) (T := TX0) (N := 2) hx hb hts hin9 tyX0 tyX0_ok nmX0 hown hK.1 hP hD hS 0 rfl rfl 0 (by decide) (hts (.fieldLink RX0 9 "AdventureParser$Buffer" "characters" "[C") (by decide +kernel)) (fun _ h9 => h9) rfl hin rfl (by decide +kernel) rfl rfl (Nat.le_of_ble_eq_true rfl) dX0_init_9 (fun H locs hP hD hS => ?_)
  have hP : va_P D vwCl ([(h0, .inr (0, [.ref q7, .int 0])), (q7, .inl (cy 1, 60, .inl (fun _ => 0)))]) H := hP
  have hD : va_D (gF h0 s.heap.size) ([(h0, .inr (0, [.ref q7, .int 0])), (q7, .inl (cy 1, 60, .inl (fun _ => 0)))]) := hD
  have hP9 : va_P D vwCl (gG cy [0, 10] rZ (fun j => if j = 0 then h0 else q7)) H := hP
  have hD9 : va_D (gF h0 s.heap.size) (gG cy [0, 10] rZ (fun j => if j = 0 then h0 else q7)) := hD
  refine W.widen (k := 1) (n := 60) (Nat.le_of_ble_eq_true rfl) (Nat.le_of_ble_eq_true rfl) ?_
  exact W.vret hx hb hr (fun t ht hW => ⟨⟨fun j => if j = 0 then h0 else q7, rfl, trivial, rfl, by rw [ht]; exact hP9, hD9⟩, hS.F ht⟩) hS.2.2 dX0_init_12
set_option maxHeartbeats 8000000 in
set_option maxRecDepth 100000 in
theorem cX1_init_c (l : Launch) (D : va_G) (cy : Nat → ClassId) (tL z0 h0 sz : Nat) (hz : z0 ≤ h0 ∧ z0 ≤ sz) : Met l yX1_init wsX1_init ({ frames := 1, cells := 3, slots := 24, locals := 12 } : Room) (gPi D cy tL z0 h0 sz (.inr (1, [.null, .null, .null, .int 0, .int 0, .int 0, .int 0, .int 0]))) (gQg D cy [1, 11, 11, 11] rC h0 sz) 3 24 (gF h0 sz) := by
  refine Met.ofW (cc := cX1_init) (maxL := 1) (ret := none) (by decide) rfl ?_
  intro p e s m args below meth c s₁ B hml hv
  obtain ⟨rfl, hsz, hP, hK⟩ := hv
  have hx := B.exec
  have hb := B.bytes
  have hr := B.returns
  have hts := atoms_spec (ws := wsX1_init) B.pre
  have hown : s.vm.findClass RX1 = some m.cls := findClass_of_methodNamed B.named
  have hlocks := B.notSynchronized
  have hin : meth.name = "<init>" := (name_of_methodNamed B.named B.method).1
  subst hsz
  have hD : va_D (gF h0 s.heap.size) [(h0, .inr (1, [.null, .null, .null, .int 0, .int 0, .int 0, .int 0, .int 0]))] := gD1
  have hA : ∀ q : Nat, s.heap.size ≤ q → gF h0 s.heap.size q := fun q h => Or.inr h
  have hS : va_S (gF h0 s.heap.size) s.heap s.heap [] := va_S.rf
  have hsub : ∀ a, gF h0 s.heap.size a → gA z0 a := fun a h => h.elim (fun q => by rw [q]; exact hz.1) (fun q => Nat.le_trans hz.2 q)
  have hP : va_P D vwCl [(h0, .inr (1, [.null, .null, .null, .int 0, .int 0, .int 0, .int 0, .int 0]))] s.heap := hP
  have hin9 : ∀ w ∈ u_ws RX1 TX1 8, w ∈ wsX1_init := by decide +kernel
  have hl := lv_entry ([.ref h0]) (n := 1) (Nat.le_of_ble_eq_true rfl)
  rw [lg_entry_eq]
  generalize (lg_sl ([.ref h0]) ++ List.replicate (1 - (lg_sl ([.ref h0])).length) Slot.unset).toArray = ls at hl ⊢
  have hl : lv_has ls 1 [(0, .ref h0)] := hl
  refine lv_aload_n hx hb dX1_init_0 rfl (lv_at hl 0 rfl) ?_
  refine W.objInit hx hb hown (hts (.methodLink RX1 3 objectInit) (by decide +kernel)) (hts (.instanceMethod objectInit) (by decide +kernel)) (hts (.code objectInit ⟨#[0xb1]⟩ 1 none) (by decide +kernel)) rfl (by rw [hml]; exact hl.1) rfl dX1_init_1 (Nat.le_of_ble_eq_true rfl) (Nat.le_of_ble_eq_true rfl) ?_
  refine W.eq (g2 := F0 m 4 ls []) rfl ?_
  refine lv_aload_n hx hb dX1_init_4 rfl (lv_at hl 0 rfl) ?_
  refine lv_bipush (v := 8) hx hb dX1_init_5 (by decide) ?_
  refine va_newa (atype := .int) (ty := .int) (a0 := (8, .inl (fun _ => 0))) (N' := 8) hx hb (hts (.arrayClass .int) (by decide +kernel)) rfl hK.1 hP hD hS hA (fun _ => rfl) (by decide) (by decide) (by decide) (Nat.le_of_ble_eq_true rfl) (Nat.le_of_ble_eq_true rfl) dX1_init_7 (fun q7 cA H hKn hP hD hS => ?_)
  have eA := gcy_i hKn
  subst eA
  have hP : va_P D vwCl ([(h0, .inr (1, [.null, .null, .null, .int 0, .int 0, .int 0, .int 0, .int 0])), (q7, .inl (cy 0, 8, .inl (fun _ => 0)))]) H := hP
  have hD : va_D (gF h0 s.heap.size) ([(h0, .inr (1, [.null, .null, .null, .int 0, .int 0, .int 0, .int 0, .int 0])), (q7, .inl (cy 0, 8, .inl (fun _ => 0)))]) := hD
  refine va_putF (D := D) (ci := 1) (v := .ref q7) (ty := .array .int) (C := RX1) (T := TX1) (N := 8) hx hb hts hin9 tyX1 tyX1_ok nmX1 hown hK.1 hP hD hS 0 rfl rfl 0 (by decide) (hts (.fieldLink RX1 11 "AdventureParser$Command" "nouns" "[I") (by decide +kernel)) (fun _ h9 => h9) rfl hin rfl (by decide +kernel) rfl rfl (Nat.le_of_ble_eq_true rfl) dX1_init_9 (fun H locs hP hD hS => ?_)
  have hP : va_P D vwCl ([(h0, .inr (1, [.ref q7, .null, .null, .int 0, .int 0, .int 0, .int 0, .int 0])), (q7, .inl (cy 0, 8, .inl (fun _ => 0)))]) H := hP
  have hD : va_D (gF h0 s.heap.size) ([(h0, .inr (1, [.ref q7, .null, .null, .int 0, .int 0, .int 0, .int 0, .int 0])), (q7, .inl (cy 0, 8, .inl (fun _ => 0)))]) := hD
  refine lv_aload_n hx hb dX1_init_12 rfl (lv_at hl 0 rfl) ?_
  refine lv_bipush (v := 8) hx hb dX1_init_13 (by decide) ?_
  refine va_newa (atype := .int) (ty := .int) (a0 := (8, .inl (fun _ => 0))) (N' := 8) hx hb (hts (.arrayClass .int) (by decide +kernel)) rfl hK.1 hP hD hS hA (fun _ => rfl) (by decide) (by decide) (by decide) (Nat.le_of_ble_eq_true rfl) (Nat.le_of_ble_eq_true rfl) dX1_init_15 (fun q15 cA H hKn hP hD hS => ?_)
  have eA := gcy_i hKn
  subst eA
  have hP : va_P D vwCl ([(h0, .inr (1, [.ref q7, .null, .null, .int 0, .int 0, .int 0, .int 0, .int 0])), (q7, .inl (cy 0, 8, .inl (fun _ => 0))), (q15, .inl (cy 0, 8, .inl (fun _ => 0)))]) H := hP
  have hD : va_D (gF h0 s.heap.size) ([(h0, .inr (1, [.ref q7, .null, .null, .int 0, .int 0, .int 0, .int 0, .int 0])), (q7, .inl (cy 0, 8, .inl (fun _ => 0))), (q15, .inl (cy 0, 8, .inl (fun _ => 0)))]) := hD
  refine va_putF (D := D) (ci := 1) (v := .ref q15) (ty := .array .int) (C := RX1) (T := TX1) (N := 8) hx hb hts hin9 tyX1 tyX1_ok nmX1 hown hK.1 hP hD hS 0 rfl rfl 1 (by decide) (hts (.fieldLink RX1 15 "AdventureParser$Command" "adjectives" "[I") (by decide +kernel)) (fun _ h9 => h9) rfl hin rfl (by decide +kernel) rfl rfl (Nat.le_of_ble_eq_true rfl) dX1_init_17 (fun H locs hP hD hS => ?_)
  have hP : va_P D vwCl ([(h0, .inr (1, [.ref q7, .ref q15, .null, .int 0, .int 0, .int 0, .int 0, .int 0])), (q7, .inl (cy 0, 8, .inl (fun _ => 0))), (q15, .inl (cy 0, 8, .inl (fun _ => 0)))]) H := hP
  have hD : va_D (gF h0 s.heap.size) ([(h0, .inr (1, [.ref q7, .ref q15, .null, .int 0, .int 0, .int 0, .int 0, .int 0])), (q7, .inl (cy 0, 8, .inl (fun _ => 0))), (q15, .inl (cy 0, 8, .inl (fun _ => 0)))]) := hD
  refine lv_aload_n hx hb dX1_init_20 rfl (lv_at hl 0 rfl) ?_
  refine lv_bipush (v := 8) hx hb dX1_init_21 (by decide) ?_
  refine va_newa (atype := .int) (ty := .int) (a0 := (8, .inl (fun _ => 0))) (N' := 8) hx hb (hts (.arrayClass .int) (by decide +kernel)) rfl hK.1 hP hD hS hA (fun _ => rfl) (by decide) (by decide) (by decide) (Nat.le_of_ble_eq_true rfl) (Nat.le_of_ble_eq_true rfl) dX1_init_23 (fun q23 cA H hKn hP hD hS => ?_)
  have eA := gcy_i hKn
  subst eA
  have hP : va_P D vwCl ([(h0, .inr (1, [.ref q7, .ref q15, .null, .int 0, .int 0, .int 0, .int 0, .int 0])), (q7, .inl (cy 0, 8, .inl (fun _ => 0))), (q15, .inl (cy 0, 8, .inl (fun _ => 0))), (q23, .inl (cy 0, 8, .inl (fun _ => 0)))]) H := hP
  have hD : va_D (gF h0 s.heap.size) ([(h0, .inr (1, [.ref q7, .ref q15, .null, .int 0, .int 0, .int 0, .int 0, .int 0])), (q7, .inl (cy 0, 8, .inl (fun _ => 0))), (q15, .inl (cy 0, 8, .inl (fun _ => 0))), (q23, .inl (cy 0, 8, .inl (fun _ => 0)))]) := hD
  refine va_putF (D := D) (ci := 1) (v := .ref q23) (ty := .array .int) (C := RX1) (T := TX1) (N := 8) hx hb hts hin9 tyX1 tyX1_ok nmX1 hown hK.1 hP hD hS 0 rfl rfl 2 (by decide) (hts (.fieldLink RX1 18 "AdventureParser$Command" "chosen" "[I") (by decide +kernel)) (fun _ h9 => h9) rfl hin rfl (by decide +kernel) rfl rfl (Nat.le_of_ble_eq_true rfl) dX1_init_25 (fun H locs hP hD hS => ?_)
  have hP : va_P D vwCl ([(h0, .inr (1, [.ref q7, .ref q15, .ref q23, .int 0, .int 0, .int 0, .int 0, .int 0])), (q7, .inl (cy 0, 8, .inl (fun _ => 0))), (q15, .inl (cy 0, 8, .inl (fun _ => 0))), (q23, .inl (cy 0, 8, .inl (fun _ => 0)))]) H := hP
  have hD : va_D (gF h0 s.heap.size) ([(h0, .inr (1, [.ref q7, .ref q15, .ref q23, .int 0, .int 0, .int 0, .int 0, .int 0])), (q7, .inl (cy 0, 8, .inl (fun _ => 0))), (q15, .inl (cy 0, 8, .inl (fun _ => 0))), (q23, .inl (cy 0, 8, .inl (fun _ => 0)))]) := hD
  refine lv_aload_n hx hb dX1_init_28 rfl (lv_at hl 0 rfl) ?_
  refine lv_iconst (v := (-1)) hx hb dX1_init_29 (by decide) ?_
  refine va_put (D := D) (ci := 1) (v := .int ((-1))) (ty := .int) (C := RX1) (T := TX1) (N := 8) hx hb hts hin9 tyX1 tyX1_ok nmX1 hown hK.1 hP hD hS 0 rfl rfl 3 (by decide) (hts (.fieldLink RX1 21 "AdventureParser$Command" "verb" "I") (by decide +kernel)) (fun _ h9 => h9) rfl (by decide +kernel) rfl rfl (Nat.le_of_ble_eq_true rfl) dX1_init_30 (fun H locs hP hD hS => ?_)
  have hP : va_P D vwCl ([(h0, .inr (1, [.ref q7, .ref q15, .ref q23, .int ((-1)), .int 0, .int 0, .int 0, .int 0])), (q7, .inl (cy 0, 8, .inl (fun _ => 0))), (q15, .inl (cy 0, 8, .inl (fun _ => 0))), (q23, .inl (cy 0, 8, .inl (fun _ => 0)))]) H := hP
  have hD : va_D (gF h0 s.heap.size) ([(h0, .inr (1, [.ref q7, .ref q15, .ref q23, .int ((-1)), .int 0, .int 0, .int 0, .int 0])), (q7, .inl (cy 0, 8, .inl (fun _ => 0))), (q15, .inl (cy 0, 8, .inl (fun _ => 0))), (q23, .inl (cy 0, 8, .inl (fun _ => 0)))]) := hD
  have hP9 : va_P D vwCl (gG cy [1, 11, 11, 11] rC (fun j => if j = 0 then h0 else if j = 1 then q7 else if j = 2 then q15 else q23)) H := hP
  have hD9 : va_D (gF h0 s.heap.size) (gG cy [1, 11, 11, 11] rC (fun j => if j = 0 then h0 else if j = 1 then q7 else if j = 2 then q15 else q23)) := hD
  refine W.widen (k := 3) (n := 24) (Nat.le_of_ble_eq_true rfl) (Nat.le_of_ble_eq_true rfl) ?_
  exact W.vret hx hb hr (fun t ht hW => ⟨⟨fun j => if j = 0 then h0 else if j = 1 then q7 else if j = 2 then q15 else q23, rfl, trivial, rfl, by rw [ht]; exact hP9, hD9⟩, hS.F ht⟩) hS.2.2 dX1_init_33
set_option maxHeartbeats 8000000 in
set_option maxRecDepth 100000 in
theorem cX4_init_c (l : Launch) (D : va_G) (cy : Nat → ClassId) (tL z0 h0 sz : Nat) (hz : z0 ≤ h0 ∧ z0 ≤ sz) : Met l yX4_init wsX4_init ({ frames := 1, cells := 3, slots := 36, locals := 12 } : Room) (gPi D cy tL z0 h0 sz (.inr (4, [.null, .null, .null, .int 0, .int 0, .int 0]))) (gQg D cy [4, 12, 12, 12] rZ h0 sz) 3 36 (gF h0 sz) := by
  refine Met.ofW (cc := cX4_init) (maxL := 1) (ret := none) (by decide) rfl ?_
  intro p e s m args below meth c s₁ B hml hv
  obtain ⟨rfl, hsz, hP, hK⟩ := hv
  have hx := B.exec
  have hb := B.bytes
  have hr := B.returns
  have hts := atoms_spec (ws := wsX4_init) B.pre
  have hown : s.vm.findClass RX4 = some m.cls := findClass_of_methodNamed B.named
  have hlocks := B.notSynchronized
  have hin : meth.name = "<init>" := (name_of_methodNamed B.named B.method).1
  subst hsz
  have hD : va_D (gF h0 s.heap.size) [(h0, .inr (4, [.null, .null, .null, .int 0, .int 0, .int 0]))] := gD1
  have hA : ∀ q : Nat, s.heap.size ≤ q → gF h0 s.heap.size q := fun q h => Or.inr h
  have hS : va_S (gF h0 s.heap.size) s.heap s.heap [] := va_S.rf
  have hsub : ∀ a, gF h0 s.heap.size a → gA z0 a := fun a h => h.elim (fun q => by rw [q]; exact hz.1) (fun q => Nat.le_trans hz.2 q)
  have hP : va_P D vwCl [(h0, .inr (4, [.null, .null, .null, .int 0, .int 0, .int 0]))] s.heap := hP
  have hin9 : ∀ w ∈ u_ws RX4 TX4 6, w ∈ wsX4_init := by decide +kernel
  have hl := lv_entry ([.ref h0]) (n := 1) (Nat.le_of_ble_eq_true rfl)
  rw [lg_entry_eq]
  generalize (lg_sl ([.ref h0]) ++ List.replicate (1 - (lg_sl ([.ref h0])).length) Slot.unset).toArray = ls at hl ⊢
  have hl : lv_has ls 1 [(0, .ref h0)] := hl
  refine lv_aload_n hx hb dX4_init_0 rfl (lv_at hl 0 rfl) ?_
  refine W.objInit hx hb hown (hts (.methodLink RX4 3 objectInit) (by decide +kernel)) (hts (.instanceMethod objectInit) (by decide +kernel)) (hts (.code objectInit ⟨#[0xb1]⟩ 1 none) (by decide +kernel)) rfl (by rw [hml]; exact hl.1) rfl dX4_init_1 (Nat.le_of_ble_eq_true rfl) (Nat.le_of_ble_eq_true rfl) ?_
  refine W.eq (g2 := F0 m 4 ls []) rfl ?_
  refine lv_aload_n hx hb dX4_init_4 rfl (lv_at hl 0 rfl) ?_
  refine lv_bipush (v := 12) hx hb dX4_init_5 (by decide) ?_
  refine va_newa (atype := .int) (ty := .int) (a0 := (12, .inl (fun _ => 0))) (N' := 12) hx hb (hts (.arrayClass .int) (by decide +kernel)) rfl hK.1 hP hD hS hA (fun _ => rfl) (by decide) (by decide) (by decide) (Nat.le_of_ble_eq_true rfl) (Nat.le_of_ble_eq_true rfl) dX4_init_7 (fun q7 cA H hKn hP hD hS => ?_)
  have eA := gcy_i hKn
  subst eA
  have hP : va_P D vwCl ([(h0, .inr (4, [.null, .null, .null, .int 0, .int 0, .int 0])), (q7, .inl (cy 0, 12, .inl (fun _ => 0)))]) H := hP
  have hD : va_D (gF h0 s.heap.size) ([(h0, .inr (4, [.null, .null, .null, .int 0, .int 0, .int 0])), (q7, .inl (cy 0, 12, .inl (fun _ => 0)))]) := hD
  refine va_putF (D := D) (ci := 4) (v := .ref q7) (ty := .array .int) (C := RX4) (T := TX4) (N := 6) hx hb hts hin9 tyX4 tyX4_ok nmX4 hown hK.1 hP hD hS 0 rfl rfl 0 (by decide) (hts (.fieldLink RX4 9 "AdventureParser$World" "nouns" "[I") (by decide +kernel)) (fun _ h9 => h9) rfl hin rfl (by decide +kernel) rfl rfl (Nat.le_of_ble_eq_true rfl) dX4_init_9 (fun H locs hP hD hS => ?_)
  have hP : va_P D vwCl ([(h0, .inr (4, [.ref q7, .null, .null, .int 0, .int 0, .int 0])), (q7, .inl (cy 0, 12, .inl (fun _ => 0)))]) H := hP
  have hD : va_D (gF h0 s.heap.size) ([(h0, .inr (4, [.ref q7, .null, .null, .int 0, .int 0, .int 0])), (q7, .inl (cy 0, 12, .inl (fun _ => 0)))]) := hD
  refine lv_aload_n hx hb dX4_init_12 rfl (lv_at hl 0 rfl) ?_
  refine lv_bipush (v := 12) hx hb dX4_init_13 (by decide) ?_
  refine va_newa (atype := .int) (ty := .int) (a0 := (12, .inl (fun _ => 0))) (N' := 12) hx hb (hts (.arrayClass .int) (by decide +kernel)) rfl hK.1 hP hD hS hA (fun _ => rfl) (by decide) (by decide) (by decide) (Nat.le_of_ble_eq_true rfl) (Nat.le_of_ble_eq_true rfl) dX4_init_15 (fun q15 cA H hKn hP hD hS => ?_)
  have eA := gcy_i hKn
  subst eA
  have hP : va_P D vwCl ([(h0, .inr (4, [.ref q7, .null, .null, .int 0, .int 0, .int 0])), (q7, .inl (cy 0, 12, .inl (fun _ => 0))), (q15, .inl (cy 0, 12, .inl (fun _ => 0)))]) H := hP
  have hD : va_D (gF h0 s.heap.size) ([(h0, .inr (4, [.ref q7, .null, .null, .int 0, .int 0, .int 0])), (q7, .inl (cy 0, 12, .inl (fun _ => 0))), (q15, .inl (cy 0, 12, .inl (fun _ => 0)))]) := hD
  refine va_putF (D := D) (ci := 4) (v := .ref q15) (ty := .array .int) (C := RX4) (T := TX4) (N := 6) hx hb hts hin9 tyX4 tyX4_ok nmX4 hown hK.1 hP hD hS 0 rfl rfl 1 (by decide) (hts (.fieldLink RX4 15 "AdventureParser$World" "adjectives" "[I") (by decide +kernel)) (fun _ h9 => h9) rfl hin rfl (by decide +kernel) rfl rfl (Nat.le_of_ble_eq_true rfl) dX4_init_17 (fun H locs hP hD hS => ?_)
  have hP : va_P D vwCl ([(h0, .inr (4, [.ref q7, .ref q15, .null, .int 0, .int 0, .int 0])), (q7, .inl (cy 0, 12, .inl (fun _ => 0))), (q15, .inl (cy 0, 12, .inl (fun _ => 0)))]) H := hP
  have hD : va_D (gF h0 s.heap.size) ([(h0, .inr (4, [.ref q7, .ref q15, .null, .int 0, .int 0, .int 0])), (q7, .inl (cy 0, 12, .inl (fun _ => 0))), (q15, .inl (cy 0, 12, .inl (fun _ => 0)))]) := hD
  refine lv_aload_n hx hb dX4_init_20 rfl (lv_at hl 0 rfl) ?_
  refine lv_bipush (v := 12) hx hb dX4_init_21 (by decide) ?_
  refine va_newa (atype := .int) (ty := .int) (a0 := (12, .inl (fun _ => 0))) (N' := 12) hx hb (hts (.arrayClass .int) (by decide +kernel)) rfl hK.1 hP hD hS hA (fun _ => rfl) (by decide) (by decide) (by decide) (Nat.le_of_ble_eq_true rfl) (Nat.le_of_ble_eq_true rfl) dX4_init_23 (fun q23 cA H hKn hP hD hS => ?_)
  have eA := gcy_i hKn
  subst eA
  have hP : va_P D vwCl ([(h0, .inr (4, [.ref q7, .ref q15, .null, .int 0, .int 0, .int 0])), (q7, .inl (cy 0, 12, .inl (fun _ => 0))), (q15, .inl (cy 0, 12, .inl (fun _ => 0))), (q23, .inl (cy 0, 12, .inl (fun _ => 0)))]) H := hP
  have hD : va_D (gF h0 s.heap.size) ([(h0, .inr (4, [.ref q7, .ref q15, .null, .int 0, .int 0, .int 0])), (q7, .inl (cy 0, 12, .inl (fun _ => 0))), (q15, .inl (cy 0, 12, .inl (fun _ => 0))), (q23, .inl (cy 0, 12, .inl (fun _ => 0)))]) := hD
  refine va_putF (D := D) (ci := 4) (v := .ref q23) (ty := .array .int) (C := RX4) (T := TX4) (N := 6) hx hb hts hin9 tyX4 tyX4_ok nmX4 hown hK.1 hP hD hS 0 rfl rfl 2 (by decide) (hts (.fieldLink RX4 18 "AdventureParser$World" "places" "[I") (by decide +kernel)) (fun _ h9 => h9) rfl hin rfl (by decide +kernel) rfl rfl (Nat.le_of_ble_eq_true rfl) dX4_init_25 (fun H locs hP hD hS => ?_)
  have hP : va_P D vwCl ([(h0, .inr (4, [.ref q7, .ref q15, .ref q23, .int 0, .int 0, .int 0])), (q7, .inl (cy 0, 12, .inl (fun _ => 0))), (q15, .inl (cy 0, 12, .inl (fun _ => 0))), (q23, .inl (cy 0, 12, .inl (fun _ => 0)))]) H := hP
  have hD : va_D (gF h0 s.heap.size) ([(h0, .inr (4, [.ref q7, .ref q15, .ref q23, .int 0, .int 0, .int 0])), (q7, .inl (cy 0, 12, .inl (fun _ => 0))), (q15, .inl (cy 0, 12, .inl (fun _ => 0))), (q23, .inl (cy 0, 12, .inl (fun _ => 0)))]) := hD
  have hP9 : va_P D vwCl (gG cy [4, 12, 12, 12] rZ (fun j => if j = 0 then h0 else if j = 1 then q7 else if j = 2 then q15 else q23)) H := hP
  have hD9 : va_D (gF h0 s.heap.size) (gG cy [4, 12, 12, 12] rZ (fun j => if j = 0 then h0 else if j = 1 then q7 else if j = 2 then q15 else q23)) := hD
  refine W.widen (k := 3) (n := 36) (Nat.le_of_ble_eq_true rfl) (Nat.le_of_ble_eq_true rfl) ?_
  exact W.vret hx hb hr (fun t ht hW => ⟨⟨fun j => if j = 0 then h0 else if j = 1 then q7 else if j = 2 then q15 else q23, rfl, trivial, rfl, by rw [ht]; exact hP9, hD9⟩, hS.F ht⟩) hS.2.2 dX4_init_28
set_option maxHeartbeats 8000000 in
set_option maxRecDepth 100000 in
theorem cX2_init_c (l : Launch) (D : va_G) (cy : Nat → ClassId) (tL z0 h0 sz : Nat) (hz : z0 ≤ h0 ∧ z0 ≤ sz) : Met l yX2_init wsX2_init ({ frames := 2, cells := 4, slots := 32, locals := 32 } : Room) (gPi D cy tL z0 h0 sz (.inr (2, [.null, .int 0, .int 0]))) (gQg D cy [2, 1, 11, 11, 11] rR h0 sz) 4 32 (gF h0 sz) := by
  refine Met.ofW (cc := cX2_init) (maxL := 1) (ret := none) (by decide) rfl ?_
  intro p e s m args below meth c s₁ B hml hv
  obtain ⟨rfl, hsz, hP, hK⟩ := hv
  have hx := B.exec
  have hb := B.bytes
  have hr := B.returns
  have hts := atoms_spec (ws := wsX2_init) B.pre
  have hown : s.vm.findClass RX2 = some m.cls := findClass_of_methodNamed B.named
  have hlocks := B.notSynchronized
  have hin : meth.name = "<init>" := (name_of_methodNamed B.named B.method).1
  subst hsz
  have hD : va_D (gF h0 s.heap.size) [(h0, .inr (2, [.null, .int 0, .int 0]))] := gD1
  have hA : ∀ q : Nat, s.heap.size ≤ q → gF h0 s.heap.size q := fun q h => Or.inr h
  have hS : va_S (gF h0 s.heap.size) s.heap s.heap [] := va_S.rf
  have hsub : ∀ a, gF h0 s.heap.size a → gA z0 a := fun a h => h.elim (fun q => by rw [q]; exact hz.1) (fun q => Nat.le_trans hz.2 q)
  have hP : va_P D vwCl [(h0, .inr (2, [.null, .int 0, .int 0]))] s.heap := hP
  have hin9 : ∀ w ∈ u_ws RX2 TX2 3, w ∈ wsX2_init := by decide +kernel
  have hl := lv_entry ([.ref h0]) (n := 1) (Nat.le_of_ble_eq_true rfl)
  rw [lg_entry_eq]
  generalize (lg_sl ([.ref h0]) ++ List.replicate (1 - (lg_sl ([.ref h0])).length) Slot.unset).toArray = ls at hl ⊢
  have hl : lv_has ls 1 [(0, .ref h0)] := hl
  refine lv_aload_n hx hb dX2_init_0 rfl (lv_at hl 0 rfl) ?_
  refine W.objInit hx hb hown (hts (.methodLink RX2 3 objectInit) (by decide +kernel)) (hts (.instanceMethod objectInit) (by decide +kernel)) (hts (.code objectInit ⟨#[0xb1]⟩ 1 none) (by decide +kernel)) rfl (by rw [hml]; exact hl.1) rfl dX2_init_1 (Nat.le_of_ble_eq_true rfl) (Nat.le_of_ble_eq_true rfl) ?_
  refine W.eq (g2 := F0 m 4 ls []) rfl ?_
  refine lv_aload_n hx hb dX2_init_4 rfl (lv_at hl 0 rfl) ?_
  refine va_new (ci := 1) (fs := [.null, .null, .null, .int 0, .int 0, .int 0, .int 0, .int 0]) (C := RX1) (T := TX1) (N := 8) hx hb hts (show ∀ w ∈ u_ws RX1 TX1 8, w ∈ wsX2_init by decide +kernel) tyX1 tyX1_ok hown (hts (.classLink RX2 9 RX1) (by decide +kernel)) (hts (.instantiable RX1 8) (by decide +kernel)) (hts (.initialized RX1) (by decide +kernel)) hK.1 hP hD hS hA rfl (show ∀ j, j < 8 → defaultValue (tyX1 j) = vp_V [.null, .null, .null, .int 0, .int 0, .int 0, .int 0, .int 0] j by decide +kernel) (Nat.le_of_ble_eq_true rfl) (Nat.le_of_ble_eq_true rfl) dX2_init_5 (fun q5 H hP hD hS => ?_)
  refine lv_dup hx hb dX2_init_8 rfl ?_
  refine gCIN (rest := [.ref q5, .ref h0]) (wr := [(h0, .inr (2, [.null, .int 0, .int 0]))]) (q := q5) (e0 := .inr (1, [.null, .null, .null, .int 0, .int 0, .int 0, .int 0, .int 0])) (ks := [1, 11, 11, 11]) (rows := rC) ⟨hx, hb, hml, hown, hts⟩ (cX1_init_c l D cy tL z0 q5 H.size (gz hsub hA hD hS)) ⟨va_cnB (host := RX5) 0 hts gX2_init_X1_init_n11 rfl rfl rfl (hK.2.2.2.1 _ (List.mem_of_getElem? (i := 15) rfl)) (hts (.initialized RX1) (by decide +kernel)) (by decide +kernel) ⟨Nat.le_of_ble_eq_true rfl, Nat.le_of_ble_eq_true rfl⟩, rfl, hts (.instanceMethod yX1_init) (by decide +kernel)⟩ hsub hA hK hP hD hS hl.1 (Nat.le_of_ble_eq_true rfl) dX2_init_9 ⟨Nat.le_of_ble_eq_true rfl, Nat.le_of_ble_eq_true rfl⟩ (fun r5 H locs er hP9 hD9 hS9 => ?_)
  clear hP hD hS
  subst er
  have hP := hP9
  have hD := hD9
  have hS := hS9
  clear hP9 hD9 hS9
  refine va_putF (D := D) (ci := 2) (v := .ref (r5 0)) (ty := .object "AdventureParser$Command") (C := RX2) (T := TX2) (N := 3) hx hb hts hin9 tyX2 tyX2_ok nmX2 hown hK.1 hP hD hS 0 rfl rfl 0 (by decide) (hts (.fieldLink RX2 12 "AdventureParser$Reading" "text" "LAdventureParser$Command;") (by decide +kernel)) (fun _ h9 => h9) rfl hin rfl (by decide +kernel) rfl rfl (Nat.le_of_ble_eq_true rfl) dX2_init_12 (fun H locs hP hD hS => ?_)
  have hP : va_P D vwCl ([(h0, .inr (2, [.ref (r5 0), .int 0, .int 0]))] ++ gG cy [1, 11, 11, 11] rC r5) H := hP
  have hD : va_D (gF h0 s.heap.size) ([(h0, .inr (2, [.ref (r5 0), .int 0, .int 0]))] ++ gG cy [1, 11, 11, 11] rC r5) := hD
  have hP9 : va_P D vwCl (gG cy [2, 1, 11, 11, 11] rR (fun j => if j < 1 then h0 else r5 (j - 1))) H := hP
  have hD9 : va_D (gF h0 s.heap.size) (gG cy [2, 1, 11, 11, 11] rR (fun j => if j < 1 then h0 else r5 (j - 1))) := hD
  refine W.widen (k := 4) (n := 32) (Nat.le_of_ble_eq_true rfl) (Nat.le_of_ble_eq_true rfl) ?_
  exact W.vret hx hb hr (fun t ht hW => ⟨⟨fun j => if j < 1 then h0 else r5 (j - 1), rfl, trivial, rfl, by rw [ht]; exact hP9, hD9⟩, hS.F ht⟩) hS.2.2 dX2_init_15
set_option maxHeartbeats 8000000 in
set_option maxRecDepth 100000 in
theorem cX3_init_c (l : Launch) (D : va_G) (cy : Nat → ClassId) (tL z0 h0 sz : Nat) (hz : z0 ≤ h0 ∧ z0 ≤ sz) : Met l yX3_init wsX3_init ({ frames := 2, cells := 8, slots := 74, locals := 32 } : Room) (gPi D cy tL z0 h0 sz (.inr (3, [.null, .null, .int 0, .int 0, .int 0, .int 0, .int 0, .int 0, .int 0]))) (gQg D cy [3, 4, 12, 12, 12, 1, 11, 11, 11] rS h0 sz) 8 74 (gF h0 sz) := by
  refine Met.ofW (cc := cX3_init) (maxL := 1) (ret := none) (by decide) rfl ?_
  intro p e s m args below meth c s₁ B hml hv
  obtain ⟨rfl, hsz, hP, hK⟩ := hv
  have hx := B.exec
  have hb := B.bytes
  have hr := B.returns
  have hts := atoms_spec (ws := wsX3_init) B.pre
  have hown : s.vm.findClass RX3 = some m.cls := findClass_of_methodNamed B.named
  have hlocks := B.notSynchronized
  have hin : meth.name = "<init>" := (name_of_methodNamed B.named B.method).1
  subst hsz
  have hD : va_D (gF h0 s.heap.size) [(h0, .inr (3, [.null, .null, .int 0, .int 0, .int 0, .int 0, .int 0, .int 0, .int 0]))] := gD1
  have hA : ∀ q : Nat, s.heap.size ≤ q → gF h0 s.heap.size q := fun q h => Or.inr h
  have hS : va_S (gF h0 s.heap.size) s.heap s.heap [] := va_S.rf
  have hsub : ∀ a, gF h0 s.heap.size a → gA z0 a := fun a h => h.elim (fun q => by rw [q]; exact hz.1) (fun q => Nat.le_trans hz.2 q)
  have hP : va_P D vwCl [(h0, .inr (3, [.null, .null, .int 0, .int 0, .int 0, .int 0, .int 0, .int 0, .int 0]))] s.heap := hP
  have hin9 : ∀ w ∈ u_ws RX3 TX3 9, w ∈ wsX3_init := by decide +kernel
  have hl := lv_entry ([.ref h0]) (n := 1) (Nat.le_of_ble_eq_true rfl)
  rw [lg_entry_eq]
  generalize (lg_sl ([.ref h0]) ++ List.replicate (1 - (lg_sl ([.ref h0])).length) Slot.unset).toArray = ls at hl ⊢
  have hl : lv_has ls 1 [(0, .ref h0)] := hl
  refine lv_aload_n hx hb dX3_init_0 rfl (lv_at hl 0 rfl) ?_
  refine W.objInit hx hb hown (hts (.methodLink RX3 3 objectInit) (by decide +kernel)) (hts (.instanceMethod objectInit) (by decide +kernel)) (hts (.code objectInit ⟨#[0xb1]⟩ 1 none) (by decide +kernel)) rfl (by rw [hml]; exact hl.1) rfl dX3_init_1 (Nat.le_of_ble_eq_true rfl) (Nat.le_of_ble_eq_true rfl) ?_
  refine W.eq (g2 := F0 m 4 ls []) rfl ?_
  refine lv_aload_n hx hb dX3_init_4 rfl (lv_at hl 0 rfl) ?_
  refine va_new (ci := 4) (fs := [.null, .null, .null, .int 0, .int 0, .int 0]) (C := RX4) (T := TX4) (N := 6) hx hb hts (show ∀ w ∈ u_ws RX4 TX4 6, w ∈ wsX3_init by decide +kernel) tyX4 tyX4_ok hown (hts (.classLink RX3 9 RX4) (by decide +kernel)) (hts (.instantiable RX4 6) (by decide +kernel)) (hts (.initialized RX4) (by decide +kernel)) hK.1 hP hD hS hA rfl (show ∀ j, j < 6 → defaultValue (tyX4 j) = vp_V [.null, .null, .null, .int 0, .int 0, .int 0] j by decide +kernel) (Nat.le_of_ble_eq_true rfl) (Nat.le_of_ble_eq_true rfl) dX3_init_5 (fun q5 H hP hD hS => ?_)
  refine lv_dup hx hb dX3_init_8 rfl ?_
  refine gCIN (rest := [.ref q5, .ref h0]) (wr := [(h0, .inr (3, [.null, .null, .int 0, .int 0, .int 0, .int 0, .int 0, .int 0, .int 0]))]) (q := q5) (e0 := .inr (4, [.null, .null, .null, .int 0, .int 0, .int 0])) (ks := [4, 12, 12, 12]) (rows := rZ) ⟨hx, hb, hml, hown, hts⟩ (cX4_init_c l D cy tL z0 q5 H.size (gz hsub hA hD hS)) ⟨va_cnB (host := RX5) 0 hts gX3_init_X4_init_n11 rfl rfl rfl (hK.2.2.2.1 _ (List.mem_of_getElem? (i := 14) rfl)) (hts (.initialized RX4) (by decide +kernel)) (by decide +kernel) ⟨Nat.le_of_ble_eq_true rfl, Nat.le_of_ble_eq_true rfl⟩, rfl, hts (.instanceMethod yX4_init) (by decide +kernel)⟩ hsub hA hK hP hD hS hl.1 (Nat.le_of_ble_eq_true rfl) dX3_init_9 ⟨Nat.le_of_ble_eq_true rfl, Nat.le_of_ble_eq_true rfl⟩ (fun r5 H locs er hP9 hD9 hS9 => ?_)
  clear hP hD hS
  subst er
  have hP := hP9
  have hD := hD9
  have hS := hS9
  clear hP9 hD9 hS9
  refine va_putF (D := D) (ci := 3) (v := .ref (r5 0)) (ty := .object "AdventureParser$World") (C := RX3) (T := TX3) (N := 9) hx hb hts hin9 tyX3 tyX3_ok nmX3 hown hK.1 hP hD hS 0 rfl rfl 0 (by decide) (hts (.fieldLink RX3 12 "AdventureParser$State" "world" "LAdventureParser$World;") (by decide +kernel)) (fun _ h9 => h9) rfl hin rfl (by decide +kernel) rfl rfl (Nat.le_of_ble_eq_true rfl) dX3_init_12 (fun H locs hP hD hS => ?_)
  have hP : va_P D vwCl ([(h0, .inr (3, [.ref (r5 0), .null, .int 0, .int 0, .int 0, .int 0, .int 0, .int 0, .int 0]))] ++ gG cy [4, 12, 12, 12] rZ r5) H := hP
  have hD : va_D (gF h0 s.heap.size) ([(h0, .inr (3, [.ref (r5 0), .null, .int 0, .int 0, .int 0, .int 0, .int 0, .int 0, .int 0]))] ++ gG cy [4, 12, 12, 12] rZ r5) := hD
  refine lv_aload_n hx hb dX3_init_15 rfl (lv_at hl 0 rfl) ?_
  refine va_new (ci := 1) (fs := [.null, .null, .null, .int 0, .int 0, .int 0, .int 0, .int 0]) (C := RX1) (T := TX1) (N := 8) hx hb hts (show ∀ w ∈ u_ws RX1 TX1 8, w ∈ wsX3_init by decide +kernel) tyX1 tyX1_ok hown (hts (.classLink RX3 18 RX1) (by decide +kernel)) (hts (.instantiable RX1 8) (by decide +kernel)) (hts (.initialized RX1) (by decide +kernel)) hK.1 hP hD hS hA rfl (show ∀ j, j < 8 → defaultValue (tyX1 j) = vp_V [.null, .null, .null, .int 0, .int 0, .int 0, .int 0, .int 0] j by decide +kernel) (Nat.le_of_ble_eq_true rfl) (Nat.le_of_ble_eq_true rfl) dX3_init_16 (fun q16 H hP hD hS => ?_)
  refine lv_dup hx hb dX3_init_19 rfl ?_
  refine gCIN (rest := [.ref q16, .ref h0]) (wr := [(h0, .inr (3, [.ref (r5 0), .null, .int 0, .int 0, .int 0, .int 0, .int 0, .int 0, .int 0]))] ++ gG cy [4, 12, 12, 12] rZ r5) (q := q16) (e0 := .inr (1, [.null, .null, .null, .int 0, .int 0, .int 0, .int 0, .int 0])) (ks := [1, 11, 11, 11]) (rows := rC) ⟨hx, hb, hml, hown, hts⟩ (cX1_init_c l D cy tL z0 q16 H.size (gz hsub hA hD hS)) ⟨va_cnB (host := RX5) 0 hts gX3_init_X1_init_n20 rfl rfl rfl (hK.2.2.2.1 _ (List.mem_of_getElem? (i := 13) rfl)) (hts (.initialized RX1) (by decide +kernel)) (by decide +kernel) ⟨Nat.le_of_ble_eq_true rfl, Nat.le_of_ble_eq_true rfl⟩, rfl, hts (.instanceMethod yX1_init) (by decide +kernel)⟩ hsub hA hK hP hD hS hl.1 (Nat.le_of_ble_eq_true rfl) dX3_init_20 ⟨Nat.le_of_ble_eq_true rfl, Nat.le_of_ble_eq_true rfl⟩ (fun r16 H locs er hP9 hD9 hS9 => ?_)
  clear hP hD hS
  subst er
  have hP := hP9
  have hD := hD9
  have hS := hS9
  clear hP9 hD9 hS9
  refine va_putF (D := D) (ci := 3) (v := .ref (r16 0)) (ty := .object "AdventureParser$Command") (C := RX3) (T := TX3) (N := 9) hx hb hts hin9 tyX3 tyX3_ok nmX3 hown hK.1 hP hD hS 0 rfl rfl 1 (by decide) (hts (.fieldLink RX3 21 "AdventureParser$State" "command" "LAdventureParser$Command;") (by decide +kernel)) (fun _ h9 => h9) rfl hin rfl (by decide +kernel) rfl rfl (Nat.le_of_ble_eq_true rfl) dX3_init_23 (fun H locs hP hD hS => ?_)
  have hP : va_P D vwCl ([(h0, .inr (3, [.ref (r5 0), .ref (r16 0), .int 0, .int 0, .int 0, .int 0, .int 0, .int 0, .int 0]))] ++ gG cy [4, 12, 12, 12] rZ r5 ++ gG cy [1, 11, 11, 11] rC r16) H := hP
  have hD : va_D (gF h0 s.heap.size) ([(h0, .inr (3, [.ref (r5 0), .ref (r16 0), .int 0, .int 0, .int 0, .int 0, .int 0, .int 0, .int 0]))] ++ gG cy [4, 12, 12, 12] rZ r5 ++ gG cy [1, 11, 11, 11] rC r16) := hD
  refine lv_aload_n hx hb dX3_init_26 rfl (lv_at hl 0 rfl) ?_
  refine lv_iconst (v := (-1)) hx hb dX3_init_27 (by decide) ?_
  refine va_put (D := D) (ci := 3) (v := .int ((-1))) (ty := .int) (C := RX3) (T := TX3) (N := 9) hx hb hts hin9 tyX3 tyX3_ok nmX3 hown hK.1 hP hD hS 0 rfl rfl 2 (by decide) (hts (.fieldLink RX3 25 "AdventureParser$State" "single" "I") (by decide +kernel)) (fun _ h9 => h9) rfl (by decide +kernel) rfl rfl (Nat.le_of_ble_eq_true rfl) dX3_init_28 (fun H locs hP hD hS => ?_)
  have hP : va_P D vwCl ([(h0, .inr (3, [.ref (r5 0), .ref (r16 0), .int ((-1)), .int 0, .int 0, .int 0, .int 0, .int 0, .int 0]))] ++ gG cy [4, 12, 12, 12] rZ r5 ++ gG cy [1, 11, 11, 11] rC r16) H := hP
  have hD : va_D (gF h0 s.heap.size) ([(h0, .inr (3, [.ref (r5 0), .ref (r16 0), .int ((-1)), .int 0, .int 0, .int 0, .int 0, .int 0, .int 0]))] ++ gG cy [4, 12, 12, 12] rZ r5 ++ gG cy [1, 11, 11, 11] rC r16) := hD
  refine lv_aload_n hx hb dX3_init_31 rfl (lv_at hl 0 rfl) ?_
  refine lv_iconst (v := (-1)) hx hb dX3_init_32 (by decide) ?_
  refine va_put (D := D) (ci := 3) (v := .int ((-1))) (ty := .int) (C := RX3) (T := TX3) (N := 9) hx hb hts hin9 tyX3 tyX3_ok nmX3 hown hK.1 hP hD hS 0 rfl rfl 8 (by decide) (hts (.fieldLink RX3 29 "AdventureParser$State" "questionSlot" "I") (by decide +kernel)) (fun _ h9 => h9) rfl (by decide +kernel) rfl rfl (Nat.le_of_ble_eq_true rfl) dX3_init_33 (fun H locs hP hD hS => ?_)
  have hP : va_P D vwCl ([(h0, .inr (3, [.ref (r5 0), .ref (r16 0), .int ((-1)), .int 0, .int 0, .int 0, .int 0, .int 0, .int ((-1))]))] ++ gG cy [4, 12, 12, 12] rZ r5 ++ gG cy [1, 11, 11, 11] rC r16) H := hP
  have hD : va_D (gF h0 s.heap.size) ([(h0, .inr (3, [.ref (r5 0), .ref (r16 0), .int ((-1)), .int 0, .int 0, .int 0, .int 0, .int 0, .int ((-1))]))] ++ gG cy [4, 12, 12, 12] rZ r5 ++ gG cy [1, 11, 11, 11] rC r16) := hD
  have hP9 : va_P D vwCl (gG cy [3, 4, 12, 12, 12, 1, 11, 11, 11] rS (fun j => if j < 1 then h0 else if j < 5 then r5 (j - 1) else r16 (j - 5))) H := hP
  have hD9 : va_D (gF h0 s.heap.size) (gG cy [3, 4, 12, 12, 12, 1, 11, 11, 11] rS (fun j => if j < 1 then h0 else if j < 5 then r5 (j - 1) else r16 (j - 5))) := hD
  refine W.widen (k := 8) (n := 74) (Nat.le_of_ble_eq_true rfl) (Nat.le_of_ble_eq_true rfl) ?_
  exact W.vret hx hb hr (fun t ht hW => ⟨⟨fun j => if j < 1 then h0 else if j < 5 then r5 (j - 1) else r16 (j - 5), rfl, trivial, rfl, by rw [ht]; exact hP9, hD9⟩, hS.F ht⟩) hS.2.2 dX3_init_36
