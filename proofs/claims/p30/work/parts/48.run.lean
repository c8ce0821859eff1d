/-! the state's relation; running a command on both sides -/
theorem OKs_congr {s s' : Nat → Int32} {c : Nat} (h : OKs s c) (e : ∀ j, j < 52 → s' j = s j) : OKs s' c := by
  obtain ⟨y1, y2, y3, y4, y5⟩ := h
  refine ⟨y1, by rw [e 0 (by decide)]; exact y2, by rw [e 49 (by decide)]; exact y3, fun k hk => ?_, by rw [e 50 (by decide)]; exact y5.1, LIM_congr y5.2.1 (fun k hk => e _ (by omega)), XO_cong y5.2.2.1 y1 (OK_in y4 y1) (fun k hk => ⟨e _ (by omega), e _ (by omega), e _ (by omega), e _ (by omega)⟩), XM_cong y5.2.2.2 (e 51 (by decide))⟩
  have := y4 k hk
  unfold OKo at this ⊢
  rw [e _ (by omega), e _ (by omega), e _ (by omega), e _ (by omega)]
  exact this
theorem CW_s {v : gV} {w c : Nat} {s s' : Nat → Int32} (h : CW v w s c) (hc : c ≤ 12) (e : ∀ j, j < 50 → s' j = s j) : CW v w s' c := by
  obtain ⟨y1, y2, y3, y4⟩ := h
  refine ⟨y1, by rw [e 49 (by decide)]; exact y2, ?_, fun k hk => ?_⟩
  · rw [y3]
    refine mk_congr fun k hk => ?_
    unfold opB
    rw [e _ (by omega)]
  · rw [e _ (by omega), e _ (by omega), e _ (by omega)]
    exact y4 k hk
theorem vis_congr {s s' : Nat → Int32} (e : ∀ j, j < 50 → s' j = s j) {k : Nat} (hk : k < 12) : visB s' k = visB s k := by
  have hix : ixP s' k = ixP s k := by unfold ixP; rw [e _ (by omega)]
  have hn : ∀ x, nrB s' x = nrB s x := by intro x; unfold nrB; rw [e 49 (by decide)]
  unfold visB nxB
  rw [hix, hn, hn, e (4 * k + 3) (by omega)]
  by_cases z : ixP s k < 12
  · unfold opB
    rw [e (4 * ixP s k + 4) (by omega), e (4 * ixP s k + 3) (by omega)]
  · simp [z]
theorem op_congr {s s' : Nat → Int32} (e : ∀ j, j < 50 → s' j = s j) {k : Nat} (hk : k < 12) : opB s' k = opB s k := by unfold opB; rw [e _ (by omega)]
theorem tgt_congr {s s' : Nat → Int32} (e : ∀ j, j < 50 → s' j = s j) {k : Nat} (hk : k < 12) : tgtB s' k = tgtB s k := by unfold tgtB; rw [vis_congr e hk, op_congr e hk]
theorem suit_congr {s s' : Nat → Int32} (e : ∀ j, j < 50 → s' j = s j) {k : Nat} (hk : k < 12) (vb : Nat) : suitB s' vb k = suitB s vb k := by
  unfold suitB inB cntB
  rw [vis_congr e hk, op_congr e hk, tgt_congr e hk, e (4 * k + 3) (by omega), e (4 * k + 1) (by omega)]
def gS (s : Nat → Int32) (vb i : Nat) : Nat → Bool := if i = 0 then tgtB s else suitB s vb
def GG (v : gV) (e : Nat) (s : Nat → Int32) (vb i : Nat) : Nat → Bool := psB s (v (e + 1) i) (v (e + 2) i) (gS s vb i)
theorem GG_congr {v v' : gV} {e vb i k : Nat} {s s' : Nat → Int32} (hv1 : v' (e + 1) = v (e + 1)) (hv2 : v' (e + 2) = v (e + 2)) (hs : ∀ j, j < 50 → s' j = s j) (hk : k < 12) : GG v' e s' vb i k = GG v e s vb i k := by
  unfold GG psB fitB gS
  rw [hv1, hv2, vis_congr hs hk, hs _ (by omega), hs _ (by omega)]
  by_cases z : i = 0
  · rw [if_pos z, if_pos z, tgt_congr hs hk]
  · rw [if_neg z, if_neg z, suit_congr hs hk]
def AnsA (v : gV) (e : Nat) (s : Nat → Int32) (c : Nat) (P : Nat → Nat) (vb L : Nat) : Prop := ∀ j, j ≤ L → (j = 0 → vb = 2) → AnsR v e s c j (P j) (GG v e s vb j)
def AskS (v : gV) (a : Nat) (s : Nat → Int32) (c : Nat) : Prop := s 55 = 1 ∧ ∃ m P vb L j, m ≤ 28 ∧ s 58 = nI m ∧ CmdR v (a + 5) (Wv s) P vb L ∧ vb ≤ 4 ∧ AnsA v (a + 5) s c P vb L ∧ j ≤ L ∧ (j = 0 → vb = 2) ∧ v a 8 = nI j ∧ s 56 = nI (P j) ∧ s 57 = mk c (GG v (a + 5) s vb j) ∧ 1 < cn c (GG v (a + 5) s vb j)
def SRb (v : gV) (a : Nat) (s : Nat → Int32) (c : Nat) : Prop := OKs s c ∧ CW v (a + 1) s c ∧ v a 2 = s 50 ∧ v a 3 = s 51 ∧ v a 4 = s 52 ∧ v a 5 = s 53 ∧ v a 6 = s 54 ∧ v a 7 = s 57 ∧ (v (a + 5) 5 = 0 ∨ v (a + 5) 5 = 1)
def SR (v : gV) (a : Nat) (s : Nat → Int32) : Prop := ∃ c, SRb v a s c ∧ ((s 55 = 0 ∧ v a 8 = -1 ∧ s 57 = 0) ∨ AskS v a s c)
theorem CmdR_congr {v v' : gV} {e vb L : Nat} {W : Nat → Int32} {P : Nat → Nat} (h : CmdR v e W P vb L) (he : v' e = v e) (h1 : v' (e + 1) = v (e + 1)) (h2 : v' (e + 2) = v (e + 2)) : CmdR v' e W P vb L := by
  unfold CmdR
  rw [he, h1, h2]
  exact h
theorem cn_congr' {c : Nat} (hc : c ≤ 12) {P Q : Nat → Bool} (h : ∀ k, k < 12 → P k = Q k) : cn c P = cn c Q := cn_congr fun k hk => h k (by omega)
theorem AnsR_congr {v v' : gV} {e c j p : Nat} {s s' : Nat → Int32} {G G' : Nat → Bool} (h : AnsR v e s c j p G) (hc : c ≤ 12) (hv : v' (e + 3) = v (e + 3)) (hs : s' (90 + p) = s (90 + p)) (hG : ∀ k, k < 12 → G' k = G k) : AnsR v' e s' c j p G' := by
  unfold AnsR
  rw [hv, hs, cn_congr' hc hG]
  rcases h with h | ⟨k, q1, q2, q3, q4, q5⟩
  · exact Or.inl h
  · exact Or.inr ⟨k, q1, q2, q3, q4, by rw [hG k (by omega)]; exact q5⟩
theorem AnsA_congr {v v' : gV} {e c vb L : Nat} {s s' : Nat → Int32} {P : Nat → Nat} (h : AnsA v e s c P vb L) (hc : c ≤ 12) (h1 : v' (e + 1) = v (e + 1)) (h2 : v' (e + 2) = v (e + 2)) (h3 : v' (e + 3) = v (e + 3)) (hs : ∀ j, j < 50 → s' j = s j) (hs2 : ∀ j, j ≤ L → s' (90 + P j) = s (90 + P j)) : AnsA v' e s' c P vb L := fun j hj hz => AnsR_congr (h j hj hz) hc h3 (hs2 j hj) (fun _ hk => GG_congr h1 h2 hs hk)
theorem Wv_congr {s s' : Nat → Int32} {m : Nat} (hm : m ≤ 28) (h58 : s 58 = nI m) (e : ∀ j, 58 ≤ j → j < 90 → s' j = s j) : Wv s' = Wv s := by
  funext p
  unfold Wv
  rw [e 58 (by decide) (by decide), h58]
  by_cases y : 60 ≤ p
  · rw [if_pos y, if_pos y]
  · rw [if_neg y, if_neg y]
    by_cases z : nI m ≤ nI p
    · rw [if_pos z, if_pos z]
    · rw [if_neg z, if_neg z]
      by_cases q : p < 31
      · rw [e _ (by omega) (by omega)]
      · exact absurd (nI_le (a := m) (b := p) (by omega) (by omega)) z
theorem SR_congr {v v' : gV} {a : Nat} {s s' : Nat → Int32} (h : SR v a s) (hv : ∀ k, a ≤ k → k < a + 9 → v' k = v k) (hs : ∀ j, j < 122 → s' j = s j) : SR v' a s' := by
  obtain ⟨c, ⟨y1, y2, y3, y4, y5, y6, y7, y8, y9⟩, hq⟩ := h
  have hc := y1.1
  have ha := hv a (by omega) (by omega)
  have ha5 := hv (a + 5) (by omega) (by omega)
  refine ⟨c, ⟨OKs_congr y1 (fun j q => hs j (by omega)), CW_congr (CW_s y2 hc (fun j q => hs j (by omega))) (fun k q r => hv k (by omega) (by omega)), ?_, ?_, ?_, ?_, ?_, ?_, ?_⟩, ?_⟩
  · rw [ha, hs 50 (by decide)]; exact y3
  · rw [ha, hs 51 (by decide)]; exact y4
  · rw [ha, hs 52 (by decide)]; exact y5
  · rw [ha, hs 53 (by decide)]; exact y6
  · rw [ha, hs 54 (by decide)]; exact y7
  · rw [ha, hs 57 (by decide)]; exact y8
  · rw [ha5]; exact y9
  · rcases hq with ⟨q1, q2, q3⟩ | ⟨q0, m, P, vb, L, j, q1, q2, q3, q4, q5, q6, q7, q8, q9, q10, q11⟩
    · left
      rw [ha, hs 55 (by decide), hs 57 (by decide)]
      exact ⟨q1, q2, q3⟩
    · right
      have hP := (q3.2.2.2.2.2 q4).2.2.2.2.2.2
      have e6 := hv (a + 5 + 1) (by omega) (by omega)
      have e7 := hv (a + 5 + 2) (by omega) (by omega)
      have hG : ∀ k, k < 12 → GG v' (a + 5) s' vb j k = GG v (a + 5) s vb j k := fun k hk => GG_congr e6 e7 (fun j q => hs j (by omega)) hk
      refine ⟨by rw [hs 55 (by decide)]; exact q0, m, P, vb, L, j, q1, by rw [hs 58 (by decide)]; exact q2, ?_, q4, ?_, q6, q7, by rw [ha]; exact q8, by rw [hs 56 (by decide)]; exact q9, ?_, ?_⟩
      · rw [Wv_congr q1 q2 (fun j q r => hs j (by omega))]
        exact CmdR_congr q3 ha5 e6 e7
      · exact AnsA_congr q5 hc e6 e7 (hv _ (by omega) (by omega)) (fun j q => hs j (by omega)) (fun j q => by have := hP j q; exact hs _ (by omega))
      · rw [hs 57 (by decide), q10]
        exact (mk_congr fun k hk => hG k (by omega)).symm
      · rw [cn_congr' hc hG]; exact q11
theorem m_close {v : gV} : ∃ v', sX6_closeQuestion 1000 v = some v' ∧ (∀ k, k ≠ 84 → v' k = v k) ∧ (∀ j, j < 55 ∨ 122 ≤ j → v' 84 j = v 84 j) ∧ ∀ j, 55 ≤ j → j < 122 → v' 84 j = 0 := by
  have L : ∀ d i v n, i + d = 122 → 55 ≤ i → ∃ v', sX6_closeQuestion_3 1000 (n + 1 + d) v (nI i) = some v' ∧ (∀ k, k ≠ 84 → v' k = v k) ∧ (∀ j, j < i ∨ 122 ≤ j → v' 84 j = v 84 j) ∧ ∀ j, i ≤ j → j < 122 → v' 84 j = 0 := by
    intro d
    induction d with
    | zero =>
      intro i v n hi _
      have : i = 122 := by omega
      subst this
      refine ⟨v, ?_, fun _ _ => rfl, fun _ _ => rfl, fun j q r => by omega⟩
      unfold sX6_closeQuestion_3
      rw [if_pos (by decide)]
    | succ d ih =>
      intro i v n hi h55
      obtain ⟨v', g1, g2, g3, g4⟩ := ih (i + 1) (up v 84 i 0) n (by omega) (by omega)
      refine ⟨v', ?_, fun k q => (g2 k q).trans (up_r _ _ _ _ q), fun j q => ?_, fun j q r => ?_⟩
      · rw [← Nat.add_assoc]
        unfold sX6_closeQuestion_3
        rw [if_neg (show ¬ (122 : Int32) ≤ nI i from nI_ge (b := 122) (by omega) (by decide)), if_pos (nI_in (by omega) (by decide)), nI_clamp (by omega), ob, nI_1]
        exact g1
      · rw [g3 j (by omega), s84, pk_un (by omega)]
      · by_cases e : j = i
        · rw [g3 j (by omega), s84, e, pk_us]
        · exact g4 j (by omega) r
  obtain ⟨v', g1, g2, g3, g4⟩ := L 67 55 v 932 (by omega) (by omega)
  exact ⟨v', g1, g2, g3, g4⟩
/-- what a run leaves: a question, a failure, or n done -/
def PO (R : Int32) (s s' : Nat → Int32) : Prop := (R = -1 ∧ s' 55 = 1 ∧ s' 54 = s 54 + 1 ∧ s' 52 = s 52 ∧ s' 53 = s 53 ∧ ∀ j, j < 52 → s' j = s j) ∨ ((R = -2 ∨ R = -3 ∨ R = -4) ∧ s' 55 = 0 ∧ s' 53 = s 53 + 1 ∧ s' 52 = s 52 ∧ s' 54 = s 54 ∧ ∀ j, j < 52 → s' j = s j) ∨ ∃ n, n ≤ 12 ∧ R = nI n ∧ s' 55 = 0 ∧ s' 52 = s 52 + 1 ∧ s' 53 = s 53 ∧ s' 54 = s 54 ∧ (n = 0 → ∀ j, j < 50 → s' j = s j)
def FO (R : Int32) (s s' : Nat → Int32) : Prop := s' 55 = 0 ∧ (∀ j, j < 52 → s' j = s j) ∧ s' 54 = s 54 ∧ (R < 0 → s' 53 = s 53 + 1 ∧ s' 52 = s 52) ∧ (¬ R < 0 → s' 52 = s 52 + 1 ∧ s' 53 = s 53)
theorem PO_n {n : Nat} {s s1 s' : Nat → Int32} (hn : n ≤ 12) (h : FO (nI n) s1 s') (e : ∀ j, 52 ≤ j → s1 j = s j) (e0 : n = 0 → ∀ j, j < 50 → s1 j = s j) : PO (nI n) s s' := by
  obtain ⟨h1, h2, h3, _, h5⟩ := h
  obtain ⟨h6, h7⟩ := h5 (nI_pos (by omega))
  exact Or.inr (Or.inr ⟨n, hn, rfl, h1, by rw [h6, e 52 (by decide)], by rw [h7, e 53 (by decide)], by rw [h3, e 54 (by decide)], fun q j hj => by rw [h2 j (by omega)]; exact e0 q j hj⟩)
theorem PO_f {R : Int32} {s s' : Nat → Int32} (hR : R = -2 ∨ R = -3 ∨ R = -4) (h : FO R s s') : PO R s s' := by
  obtain ⟨h1, h2, h3, h4, _⟩ := h
  obtain ⟨h6, h7⟩ := h4 (by rcases hR with q | q | q <;> rw [q] <;> decide)
  exact Or.inr (Or.inl ⟨hR, h1, h6, h7, h3, h2⟩)
theorem PO_s {R : Int32} {s0 s s' : Nat → Int32} (h : PO R s s') (e : ∀ j, j < 55 → s j = s0 j) : PO R s0 s' := by
  rcases h with ⟨h1, h2, h3, h4, h5, h6⟩ | ⟨h1, h2, h3, h4, h5, h6⟩ | ⟨n, h0, h1, h2, h3, h4, h5, h6⟩
  · exact Or.inl ⟨h1, h2, by rw [h3, e 54 (by decide)], by rw [h4, e 52 (by decide)], by rw [h5, e 53 (by decide)], fun j q => by rw [h6 j q, e j (by omega)]⟩
  · exact Or.inr (Or.inl ⟨h1, h2, by rw [h3, e 53 (by decide)], by rw [h4, e 52 (by decide)], by rw [h5, e 54 (by decide)], fun j q => by rw [h6 j q, e j (by omega)]⟩)
  · exact Or.inr (Or.inr ⟨n, h0, h1, h2, by rw [h3, e 52 (by decide)], by rw [h4, e 53 (by decide)], by rw [h5, e 54 (by decide)], fun z j q => by rw [h6 z j q, e j (by omega)]⟩)
theorem b_fin {v v2 : gV} {a c : Nat} {R : Int32} (h : CW v (a + 1) (v2 84) c) (ho : OKs (v2 84) c) (h2 : v a 2 = v2 84 50) (h3 : v a 3 = v2 84 51) (h4 : v a 4 = v2 84 52) (h5 : v a 5 = v2 84 53) (h6 : v a 6 = v2 84 54) (h7 : v a 7 = 0) (h8 : v a 8 = -1) (hb : v (a + 5) 5 = 0 ∨ v (a + 5) 5 = 1) (hR : R ≠ -1) :
    ∃ v' v2', sX3_countResult v a R = some v' ∧ sX6_run_96 1000 v2 R = some (R, v2') ∧ SR v' a (v2' 84) ∧ (∀ k, k ≠ a → v' k = v k) ∧ (∀ k, k ≠ 84 → v2' k = v2 k) ∧ FO R (v2 84) (v2' 84) := by
  have hc := ho.1
  have hp52 : ¬ ((52 : Int32) < 0 ∨ 122 ≤ (52 : Int32).toNatClampNeg) := by decide
  have h52 : (52 : Int32).toNatClampNeg = 52 := by decide
  have hp53 : ¬ ((53 : Int32) < 0 ∨ 122 ≤ (53 : Int32).toNatClampNeg) := by decide
  have h53 : (53 : Int32).toNatClampNeg = 53 := by decide
  have fin : ∀ (V w v' : gV) , (∀ k, k ≠ 84 → w k = v2 k) → (∀ k, k ≠ a → v' k = v k) → (∀ j, j ≠ 4 → j ≠ 5 → v' a j = v a j) → (∀ j, j < 52 → w 84 j = v2 84 j) → v' a 4 = w 84 52 → v' a 5 = w 84 53 → w 84 54 = v2 84 54 → ∃ v2', sX6_closeQuestion 1000 w = some v2' ∧ SR v' a (v2' 84) ∧ (∀ k, k ≠ 84 → v2' k = v2 k) ∧ (∀ j, j < 55 → v2' 84 j = w 84 j) ∧ v2' 84 55 = 0 := by
    intro V w v' w1 w2 w3 w4 w5 w6 w7
    obtain ⟨u, g1, g2, g3, g4⟩ := m_close (v := w)
    refine ⟨u, g1, ⟨c, ⟨OKs_congr ho (fun j q => ?_), CW_congr (CW_s h hc (fun j q => ?_)) (fun k q r => w2 k (by omega)), ?_, ?_, ?_, ?_, ?_, ?_, ?_⟩, Or.inl ⟨g4 55 (by decide) (by decide), ?_, g4 57 (by decide) (by decide)⟩⟩, fun k q => (g2 k q).trans (w1 k q), fun j q => g3 j (Or.inl q), g4 55 (by decide) (by decide)⟩
    · rw [g3 j (by omega), w4 j (by omega)]
    · rw [g3 j (by omega), w4 j (by omega)]
    · rw [w3 2 (by decide) (by decide), g3 50 (by decide), w4 50 (by decide)]; exact h2
    · rw [w3 3 (by decide) (by decide), g3 51 (by decide), w4 51 (by decide)]; exact h3
    · rw [g3 52 (by decide)]; exact w5
    · rw [g3 53 (by decide)]; exact w6
    · rw [w3 6 (by decide) (by decide), g3 54 (by decide), w7]; exact h6
    · rw [w3 7 (by decide) (by decide), g4 57 (by decide) (by decide)]; exact h7
    · rw [w2 (a + 5) (by omega)]; exact hb
    · rw [w3 8 (by decide) (by decide)]; exact h8
  unfold sX3_countResult sX6_run_96 sX6_run_139 sX6_run_158
  simp only [if_pos hp52, h52, if_pos hp53, h53, ob, if_neg hR]
  by_cases z : R < 0
  · have z' : ¬ 0 ≤ R := Int32.not_le.mpr z
    rw [if_pos z, if_neg z', if_neg z']
    obtain ⟨u, g1, g2, g3, g5, g6⟩ := fin v (up (up v2 84 53 (v2 84 53 + 1)) 84 52 (up v2 84 53 (v2 84 53 + 1) 84 52 + 0)) (up v a 5 (v a 5 + 1)) (fun k q => by rw [up_r _ _ _ _ q, up_r _ _ _ _ q]) (fun k q => up_r _ _ _ _ q) (fun j q r => up_c _ _ _ _ r) (fun j q => by rw [s84, s84, pk_un (by omega), pk_un (by omega)]) (by rw [up_c _ _ _ _ (by decide), s84, s84, pk_us, pk_un (by decide), add_0, h4]) (by rw [up_s, s84, s84, pk_un (by decide), pk_us, h5]) (by rw [s84, s84, pk_un (by decide), pk_un (by decide)])
    rw [g1, ob]
    exact ⟨_, u, rfl, rfl, g2, fun k q => up_r _ _ _ _ q, g3, g6, fun j q => by rw [g5 j (by omega), s84, s84, pk_un (by omega), pk_un (by omega)], by rw [g5 54 (by decide), s84, s84, pk_un (by decide), pk_un (by decide)], fun _ => ⟨by rw [g5 53 (by decide), s84, pk_un (by decide), s84, pk_us], by rw [g5 52 (by decide), s84, pk_us, s84, pk_un (by decide), add_0]⟩, fun q => absurd z q⟩
  · have z' : 0 ≤ R := Int32.not_lt.mp z
    rw [if_neg z, if_pos z', if_pos z']
    obtain ⟨u, g1, g2, g3, g5, g6⟩ := fin v (up (up v2 84 53 (v2 84 53 + 0)) 84 52 (up v2 84 53 (v2 84 53 + 0) 84 52 + 1)) (up v a 4 (v a 4 + 1)) (fun k q => by rw [up_r _ _ _ _ q, up_r _ _ _ _ q]) (fun k q => up_r _ _ _ _ q) (fun j q r => up_c _ _ _ _ q) (fun j q => by rw [s84, s84, pk_un (by omega), pk_un (by omega)]) (by rw [up_s, s84, s84, pk_us, pk_un (by decide), h4]) (by rw [up_c _ _ _ _ (by decide), s84, s84, pk_un (by decide), pk_us, add_0, h5]) (by rw [s84, s84, pk_un (by decide), pk_un (by decide)])
    rw [g1, ob]
    exact ⟨_, u, rfl, rfl, g2, fun k q => up_r _ _ _ _ q, g3, g6, fun j q => by rw [g5 j (by omega), s84, s84, pk_un (by omega), pk_un (by omega)], by rw [g5 54 (by decide), s84, s84, pk_un (by decide), pk_un (by decide)], fun q => absurd q z, fun _ => ⟨by rw [g5 52 (by decide), s84, pk_us, s84, pk_un (by decide)], by rw [g5 53 (by decide), s84, pk_un (by decide), s84, pk_us, add_0]⟩⟩
