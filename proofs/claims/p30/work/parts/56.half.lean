/-! the half-read command -/
def LI (v : gV) (W : Nat → Int32) (vb form L m : Nat) (P : Nat → Nat) : Prop :=
  vb ≤ 4 ∧ v 4 3 = nI vb ∧ W 0 = nI (10 + vb) ∧ v 4 4 = nI form ∧ v 4 6 = nI L ∧ L ≤ 7 ∧ form ≤ 3 ∧ (form = 1 → W 1 = 17) ∧ (form = 2 → W 1 = 22) ∧ (form = 3 → W 1 = 23) ∧
  (∀ j, 1 ≤ j → j ≤ L → Des W (P j) (v 5 j) (v 6 j) ∧ dE W (P j) ≤ m ∧ (j < L → W (dE W (P j)) = 19 ∧ P (j + 1) = dE W (P j) + 1)) ∧
  (1 ≤ L → (form = 0 ∧ P 1 = 1) ∨ (form = 1 ∧ P 1 = 3 ∧ W 2 = 18))
def Pt (W : Nat → Int32) (ps m k : Nat) (A : Int32) : Prop := (k = 0 ∧ m = ps ∧ A = -1) ∨ (k = 1 ∧ m = ps + 1 ∧ W ps = 21 ∧ A = -1) ∨ (k = 2 ∧ ∃ b, b < 4 ∧ A = nI b ∧ ((m = ps + 1 ∧ W ps = nI (b + 6)) ∨ (m = ps + 2 ∧ W ps = 21 ∧ W (ps + 1) = nI (b + 6))))
def eW (W : Nat → Int32) (m : Nat) : Prop := ∀ x, m ≤ x → W x = -1
theorem eW_up {W : Nat → Int32} {m : Nat} (h : eW W m) (y : Int32) : eW (upd W m y) (m + 1) := fun x hx => by rw [pk_un (by omega)]; exact h x (by omega)
theorem W_lt {W : Nat → Int32} {m x : Nat} {y : Int32} (h : eW W m) (hx : W x = y) (hy : y ≠ -1) : x < m := by
  refine Classical.byContradiction fun q => hy ?_
  rw [← hx]
  exact h x (by omega)
theorem W_up {W : Nat → Int32} {m x : Nat} {y z : Int32} (h : eW W m) (hx : W x = y) (hy : y ≠ -1) : upd W m z x = y := by
  rw [pk_un (by have := W_lt h hx hy; omega)]
  exact hx
theorem d_up {W : Nat → Int32} {m p : Nat} (z : Int32) (h : dE W p ≤ m) : dE (upd W m z) p = dE W p ∧ dN (upd W m z) p = dN W p ∧ dX (upd W m z) p = dX W p ∧ (upd W m z) (dN W p) = W (dN W p) := by
  have h1 := dA_le W p
  have h2 := dN_le W p
  have h3 : dA W p ≤ dN W p := by unfold dN; split <;> omega
  unfold dE at h
  have eA : dA (upd W m z) p = dA W p := by unfold dA; rw [pk_un (by omega)]
  have eV : upd W m z (dA W p) = W (dA W p) := pk_un (by omega)
  have eN : dN (upd W m z) p = dN W p := by unfold dN; rw [eA, eV]
  refine ⟨by unfold dE; rw [eN], eN, by unfold dX; rw [eA, eV], pk_un (by omega)⟩
theorem Des_up {W : Nat → Int32} {m p : Nat} {a b : Int32} (z : Int32) (h : dE W p ≤ m) (hd : Des W p a b) : Des (upd W m z) p a b := by
  obtain ⟨e1, e2, e3, e4⟩ := d_up z h
  unfold Des
  rw [e2, e3, e4]
  exact hd
theorem LI_next {v v' : gV} {W : Nat → Int32} {vb form L m : Nat} {P : Nat → Nat} {y : Int32} (h : LI v W vb form L m P) (hW : eW W m) (h3 : v' 4 3 = v 4 3) (h4 : v' 4 4 = v 4 4) (h6 : v' 4 6 = v 4 6) (ha : ∀ j, 1 ≤ j → j ≤ L → v' 5 j = v 5 j ∧ v' 6 j = v 6 j) : LI v' (upd W m y) vb form L (m + 1) P := by
  obtain ⟨a1, a2, a3, a4, a5, a6, a7, a8, a9, a10, a11, a12⟩ := h
  refine ⟨a1, by rw [h3]; exact a2, W_up hW a3 (fun q => nI_pos (n := 10 + vb) (by omega) (by rw [q]; decide)), by rw [h4]; exact a4, by rw [h6]; exact a5, a6, a7, fun q => W_up hW (a8 q) (by decide), fun q => W_up hW (a9 q) (by decide), fun q => W_up hW (a10 q) (by decide), fun j q1 q2 => ?_, fun q => ?_⟩
  · obtain ⟨b1, b2, b3⟩ := a11 j q1 q2
    rw [(ha j q1 q2).1, (ha j q1 q2).2, (d_up y b2).1]
    exact ⟨Des_up y b2 b1, by omega, fun q => ⟨W_up hW (b3 q).1 (by decide), (b3 q).2⟩⟩
  · rcases a12 q with b | ⟨b1, b2, b3⟩
    · exact Or.inl b
    · exact Or.inr ⟨b1, b2, W_up hW b3 (by decide)⟩
theorem Pt_the {W : Nat → Int32} {ps m : Nat} {A : Int32} (h : Pt W ps m 0 A) : Pt (upd W m 21) ps (m + 1) 1 A := by
  rcases h with ⟨_, h1, h2⟩ | ⟨h, _⟩ | ⟨h, _⟩
  · subst h1
    exact Or.inr (Or.inl ⟨rfl, rfl, pk_us, h2⟩)
  · omega
  · omega
theorem Pt_adj {W : Nat → Int32} {ps m k b : Nat} {A : Int32} (h : Pt W ps m k A) (hk : k ≤ 1) (hb : b < 4) : Pt (upd W m (nI (b + 6))) ps (m + 1) 2 (nI b) := by
  rcases h with ⟨_, h1, h2⟩ | ⟨_, h1, h2, h3⟩ | ⟨h, _⟩
  · subst h1
    exact Or.inr (Or.inr ⟨rfl, b, hb, rfl, Or.inl ⟨rfl, pk_us⟩⟩)
  · subst h1
    exact Or.inr (Or.inr ⟨rfl, b, hb, rfl, Or.inr ⟨rfl, by rw [pk_un (by omega)]; exact h2, pk_us⟩⟩)
  · omega
theorem adjN : ∀ b, b < 4 → adjW (nI (b + 6)) = true ∧ nI (b + 6) ≠ 21 ∧ nI (b + 6) - 6 = nI b := by decide +kernel
theorem nounN : ∀ x, x < 6 → adjW (nI x) = false ∧ nI x ≠ 21 := by decide +kernel
theorem Pt_noun {W : Nat → Int32} {ps m k x : Nat} {A : Int32} (h : Pt W ps m k A) (hx : x < 6) : Des (upd W m (nI x)) ps (nI x) A ∧ dE (upd W m (nI x)) ps = m + 1 := by
  obtain ⟨n1, n2⟩ := nounN x hx
  have fin : ∀ W' : Nat → Int32, dN W' ps = m → W' m = nI x → dX W' ps = A → Des W' ps (nI x) A ∧ dE W' ps = m + 1 := by
    intro W' e1 e2 e3
    refine ⟨⟨by rw [e1, e2], e3.symm, x, hx, by rw [e1, e2]⟩, by unfold dE; rw [e1]⟩
  rcases h with ⟨_, h1, h2⟩ | ⟨_, h1, h2, h3⟩ | ⟨_, b, hb, hA, ⟨h1, h2⟩ | ⟨h1, h2, h3⟩⟩
  · subst h1
    have eA : dA (upd W m (nI x)) m = m := by unfold dA; rw [pk_us, if_neg n2]
    refine fin _ ?_ pk_us ?_
    · unfold dN; rw [eA, pk_us, n1, if_neg (by decide)]
    · unfold dX; rw [eA, pk_us, n1, if_neg (by decide), h2]
  · subst h1
    have eA : dA (upd W (ps + 1) (nI x)) ps = ps + 1 := by unfold dA; rw [pk_un (by omega), if_pos h2]
    refine fin _ ?_ pk_us ?_
    · unfold dN; rw [eA, pk_us, n1, if_neg (by decide)]
    · unfold dX; rw [eA, pk_us, n1, if_neg (by decide), h3]
  · subst h1
    obtain ⟨j1, j2, j3⟩ := adjN b hb
    have eA : dA (upd W (ps + 1) (nI x)) ps = ps := by unfold dA; rw [pk_un (by omega), h2, if_neg j2]
    refine fin _ ?_ pk_us ?_
    · unfold dN; rw [eA, pk_un (by omega), h2, j1, if_pos rfl]
    · unfold dX; rw [eA, pk_un (by omega), h2, j1, if_pos rfl, j3, hA]
  · subst h1
    obtain ⟨j1, j2, j3⟩ := adjN b hb
    have eA : dA (upd W (ps + 2) (nI x)) ps = ps + 1 := by unfold dA; rw [pk_un (by omega), if_pos h2]
    refine fin _ ?_ pk_us ?_
    · unfold dN; rw [eA, pk_un (by omega), h3, j1, if_pos rfl]
    · unfold dX; rw [eA, pk_un (by omega), h3, j1, if_pos rfl, j3, hA]
def no20 (W : Nat → Int32) (m : Nat) : Prop := ∀ x, x < m → W x ≠ 20
theorem no20_up {W : Nat → Int32} {m : Nat} {y : Int32} (h : no20 W m) (hy : y ≠ 20) : no20 (upd W m y) (m + 1) := by
  intro x hx
  by_cases e : x = m
  · rw [e, pk_us]; exact hy
  · rw [pk_un e]; exact h x (by omega)
def HL (v : gV) (W : Nat → Int32) (i m f k : Nat) : Prop := ∃ vb form L P ps A, i = vb + 1 ∧ LI v W vb form L m P ∧ v 4 5 = 0 ∧ v 4 7 = nI (L + 1) ∧ (L = 0 → (form = 0 ∧ ps = 1) ∨ (form = 1 ∧ ps = 3 ∧ W 2 = 18)) ∧ (1 ≤ L → W (dE W (P L)) = 19 ∧ ps = dE W (P L) + 1) ∧ Pt W ps m k A ∧ (L + 1 < 8 → v 6 (L + 1) = A) ∧ (∀ j, L + 1 < j → j < 8 → v 6 j = -1) ∧ v 6 0 = -1 ∧ 8 * (L + 1) ≤ f + 4 ∧ no20 W m
def H7 (v : gV) (W : Nat → Int32) (i m f : Nat) : Prop := ∃ vb form L P, i = vb + 1 ∧ LI v W vb form L m P ∧ 1 ≤ L ∧ v 4 5 = 0 ∧ v 4 7 = nI L ∧ m = dE W (P L) ∧ (∀ j, L < j → j < 8 → v 6 j = -1) ∧ v 6 0 = -1 ∧ 8 * L ≤ f ∧ no20 W m
def H2 (v : gV) (W : Nat → Int32) (i m f form : Nat) : Prop := ∃ vb P, i = vb + 1 ∧ LI v W vb form 0 m P ∧ m = 2 ∧ v 4 5 = 0 ∧ v 4 7 = 1 ∧ (∀ j, j < 8 → v 6 j = -1) ∧ 4 ≤ f ∧ no20 W m
def HT (v : gV) (W : Nat → Int32) (i m k : Nat) : Prop := ∃ form L P A, i = 3 ∧ LI v W 2 form L m P ∧ (1 ≤ L → W (dE W (P L)) = 20) ∧ (L = 0 → (form = 1 ∧ W 2 = 20) ∨ form = 2 ∨ form = 3) ∧ v 4 5 = 0 ∧ v 4 7 = 0 ∧ v 6 0 = A ∧ Pt W (P 0) m k A ∧ 1 ≤ P 0 ∧ W (P 0 - 1) = 20 ∧ (∀ x, x < P 0 - 1 → W x ≠ 20) ∧ ∀ j, 1 ≤ j → j ≤ L → P j < P 0
def FinA (v : gV) (W : Nat → Int32) (m : Nat) : Prop := v 4 3 = -1 ∧ ∃ a0 b X, ((W 0 = 21 ∧ a0 = 1) ∨ (W 0 ≠ 21 ∧ a0 = 0)) ∧ b < 4 ∧ W a0 = nI (b + 6) ∧ v 6 0 = nI b ∧ v 5 0 = X ∧ a0 < m ∧ ((X = -1 ∧ (m ≤ a0 + 1 ∨ 6 ≤ W (a0 + 1))) ∨ ∃ x, x < 6 ∧ a0 + 1 < m ∧ X = nI x ∧ W (a0 + 1) = nI x)
def Fin (v : gV) (W : Nat → Int32) (m : Nat) : Prop := (∃ vb L P, CmdR v 4 W P vb L) ∨ FinA v W m
def H0 (v : gV) (m : Nat) : Prop := m = 0 ∧ v 4 3 = -1 ∧ v 4 4 = 0 ∧ v 4 5 = 0 ∧ v 4 6 = 0 ∧ v 4 7 = 0 ∧ v 5 0 = -1 ∧ ∀ j, j < 8 → v 6 j = -1
def HA (v : gV) (W : Nat → Int32) (i m : Nat) : Prop := v 4 3 = -1 ∧ i = 0 ∧ m = 1 ∧ W 0 = 21 ∧ v 4 7 = 0 ∧ v 5 0 = -1
def HB (v : gV) (W : Nat → Int32) (i m : Nat) : Prop := v 4 3 = -1 ∧ i = 0 ∧ v 4 7 = 0 ∧ v 5 0 = -1 ∧ ∃ a0 b, ((W 0 = 21 ∧ a0 = 1) ∨ (W 0 ≠ 21 ∧ a0 = 0)) ∧ b < 4 ∧ W a0 = nI (b + 6) ∧ v 6 0 = nI b ∧ m = a0 + 1
def PI (v : gV) (W : Nat → Int32) (p i m f : Nat) : Prop :=
  (p = 0 ∧ H0 v m ∧ i = 0) ∨ (p = 1 ∧ HL v W i m f 0 ∧ m = 1) ∨ (p = 2 ∧ H2 v W i m f 1) ∨ (p = 3 ∧ (H2 v W i m f 2 ∨ H2 v W i m f 3)) ∨ (p = 4 ∧ HL v W i m f 0) ∨ (p = 5 ∧ HL v W i m f 1) ∨ (p = 6 ∧ HL v W i m f 2) ∨ (p = 7 ∧ H7 v W i m f) ∨ (p = 8 ∧ HT v W i m 0) ∨ (p = 9 ∧ HT v W i m 1) ∨ (p = 10 ∧ HT v W i m 2) ∨ (p = 11 ∧ HA v W i m) ∨ (p = 12 ∧ HB v W i m) ∨ (p = 13 ∧ Fin v W m)
theorem LI_mono {v : gV} {W : Nat → Int32} {vb form L m : Nat} {P : Nat → Nat} (h : LI v W vb form L m P) : ∀ d i, 1 ≤ i → i + d + 1 ≤ L → P i < P (i + d + 1) := by
  have st : ∀ j, 1 ≤ j → j < L → P j < P (j + 1) := by
    intro j h1 h2
    obtain ⟨_, _, b3⟩ := h.2.2.2.2.2.2.2.2.2.2.1 j h1 (by omega)
    have := (b3 h2).2
    have := dE_le W (P j)
    omega
  intro d
  induction d with
  | zero => intro i h1 h2; exact st i h1 (by omega)
  | succ d ih =>
    intro i h1 h2
    have e1 := ih i h1 (by omega)
    have e2 := st (i + d + 1) (by omega) (by omega)
    rw [show i + (d + 1) + 1 = i + d + 1 + 1 by omega]
    omega
/-- the whole command -/
theorem Cmd_of {v : gV} {W : Nat → Int32} {vb form L m : Nat} {P : Nat → Nat} (h : LI v W vb form L m P) (hm : m ≤ 21) (hb : v 4 5 = 0 ∨ v 4 5 = 1) (h1 : 1 ≤ L → W (dE W (P L)) ≠ 18 ∧ W (dE W (P L)) ≠ 19) (h0 : L = 0 → form ≠ 0 ∧ (form = 1 → W 2 ≠ 18 ∧ W 2 ≠ 19)) (hP0 : P 0 ≤ 25)
    (ht : vb = 2 → 1 ≤ P 0 ∧ W (P 0 - 1) = 20 ∧ (∀ i, i < P 0 - 1 → W i ≠ 20) ∧ ((v 4 5 = 1 ∧ W (P 0) = 22) ∨ (v 4 5 = 0 ∧ Des W (P 0) (v 5 0) (v 6 0)))) (hlt : vb = 2 → ∀ j, 1 ≤ j → j ≤ L → P j < P 0) : CmdR v 4 W P vb L := by
  obtain ⟨a1, a2, a3, a4, a5, a6, a7, a8, a9, a10, a11, a12⟩ := id h
  refine ⟨by omega, a2, a3, a6, hb, fun _ => ⟨a5, ?_, fun j q1 q2 => ?_, ht, fun i j q1 q2 q3 => ?_, hlt, fun j q => ?_⟩⟩
  · have hf : form = 0 ∨ form = 1 ∨ form = 2 ∨ form = 3 := by omega
    rcases hf with e | e | e | e
    · have hL : 1 ≤ L := by
        refine Classical.byContradiction fun q => (h0 (by omega)).1 e
      right; right; right
      rcases a12 hL with ⟨_, b⟩ | ⟨b, _⟩
      · exact ⟨by rw [a4, e]; rfl, b, hL⟩
      · omega
    · left
      refine ⟨by rw [a4, e]; rfl, a8 e, fun q => (h0 q).2 e, fun q => ?_⟩
      rcases a12 (by omega) with ⟨b, _⟩ | ⟨_, b1, b2⟩
      · omega
      · exact ⟨b2, b1⟩
    · right; left
      exact ⟨by rw [a4, e]; rfl, a9 e⟩
    · right; right; left
      exact ⟨by rw [a4, e]; rfl, a10 e⟩
  · obtain ⟨b1, b2, b3⟩ := a11 j q1 q2
    exact ⟨b1, b3, fun q => by rw [q]; exact h1 (by omega)⟩
  · have := LI_mono h (j - i - 1) i q1 (by omega)
    rw [show i + (j - i - 1) + 1 = j by omega] at this
    exact this
  · by_cases e : j = 0
    · rw [e]; exact hP0
    · obtain ⟨b1, b2, b3⟩ := a11 j (by omega) q
      have := dE_le W (P j)
      omega
