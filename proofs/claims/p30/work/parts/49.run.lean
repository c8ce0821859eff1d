/-! running a command on both sides -/
theorem b_askF {v v2 Z : gV} {a c vb L j m : Nat} {P : Nat → Nat} (h : CW v (a + 1) (v2 84) c) (ho : OKs (v2 84) c) (h2 : v a 2 = v2 84 50) (h3 : v a 3 = v2 84 51) (h4 : v a 4 = v2 84 52) (h5 : v a 5 = v2 84 53) (h6 : v a 6 = v2 84 54) (hm : m ≤ 28) (h58 : v2 84 58 = nI m) (hC : CmdR v (a + 5) (Wv (v2 84)) P vb L) (hvb : vb ≤ 4) (hA : AnsA v (a + 5) (v2 84) c P vb L) (hj : j ≤ L) (hj0 : j = 0 → vb = 2) (hG : 1 < cn c (GG v (a + 5) (v2 84) vb j)) (hZ : Z 84 = upd (upd (v2 84) 56 (nI (P j))) 57 (mk c (GG v (a + 5) (v2 84) vb j))) :
    ∃ v' v2', sX3_countResult (up (up v a 8 (nI j)) a 7 (mk c (GG v (a + 5) (v2 84) vb j))) a (-1) = some v' ∧ sX6_run_96 1000 Z (-1) = some (-1, v2') ∧ SR v' a (v2' 84) ∧ (∀ k, k ≠ a → v' k = v k) ∧ (∀ k, k ≠ 84 → v2' k = Z k) ∧ PO (-1) (v2 84) (v2' 84) := by
  have hc := ho.1
  unfold sX3_countResult sX6_run_96
  rw [if_pos (show (-1 : Int32) < 0 by decide), if_pos rfl, if_pos rfl]
  simp only [ob]
  refine ⟨_, _, rfl, rfl, ?_, fun k q => by rw [up_r _ _ _ _ q, up_r _ _ _ _ q, up_r _ _ _ _ q], fun k q => by rw [up_r _ _ _ _ q, up_r _ _ _ _ q], Or.inl ⟨rfl, ?_, ?_, ?_, ?_, fun j' q => ?_⟩⟩
  have hv : ∀ k, k ≠ a → up (up (up v a 8 (nI j)) a 7 (mk c (GG v (a + 5) (v2 84) vb j))) a 6 ((up (up v a 8 (nI j)) a 7 (mk c (GG v (a + 5) (v2 84) vb j))) a 6 + 1) k = v k := fun k q => by rw [up_r _ _ _ _ q, up_r _ _ _ _ q, up_r _ _ _ _ q]
  have hs : up (up Z 84 55 1) 84 54 (up Z 84 55 1 84 54 + 1) 84 = upd (upd (upd (upd (v2 84) 56 (nI (P j))) 57 (mk c (GG v (a + 5) (v2 84) vb j))) 55 1) 54 (v2 84 54 + 1) := by
    rw [s84, s84, hZ, pk_un (by decide : (54 : Nat) ≠ 55), pk_un (by decide : (54 : Nat) ≠ 57), pk_un (by decide : (54 : Nat) ≠ 56)]
  rw [hs]
  generalize hs' : upd (upd (upd (upd (v2 84) 56 (nI (P j))) 57 (mk c (GG v (a + 5) (v2 84) vb j))) 55 1) 54 (v2 84 54 + 1) = s'
  have e : ∀ i, i ≠ 54 → i ≠ 55 → i ≠ 56 → i ≠ 57 → s' i = v2 84 i := by
    intro i q1 q2 q3 q4
    rw [← hs', pk_un q1, pk_un q2, pk_un q4, pk_un q3]
  have e54 : s' 54 = v2 84 54 + 1 := by rw [← hs', pk_us]
  have e55 : s' 55 = 1 := by rw [← hs', pk_un (by decide), pk_us]
  have e56 : s' 56 = nI (P j) := by rw [← hs', pk_un (by decide), pk_un (by decide), pk_un (by decide), pk_us]
  have e57 : s' 57 = mk c (GG v (a + 5) (v2 84) vb j) := by rw [← hs', pk_un (by decide), pk_un (by decide), pk_us]
  clear hs' hs
  generalize hV : up (up (up v a 8 (nI j)) a 7 (mk c (GG v (a + 5) (v2 84) vb j))) a 6 ((up (up v a 8 (nI j)) a 7 (mk c (GG v (a + 5) (v2 84) vb j))) a 6 + 1) = V at hv
  have k2 : V a 2 = v a 2 := by rw [← hV, up_c _ _ _ _ (by decide), up_c _ _ _ _ (by decide), up_c _ _ _ _ (by decide)]
  have k3 : V a 3 = v a 3 := by rw [← hV, up_c _ _ _ _ (by decide), up_c _ _ _ _ (by decide), up_c _ _ _ _ (by decide)]
  have k4 : V a 4 = v a 4 := by rw [← hV, up_c _ _ _ _ (by decide), up_c _ _ _ _ (by decide), up_c _ _ _ _ (by decide)]
  have k5 : V a 5 = v a 5 := by rw [← hV, up_c _ _ _ _ (by decide), up_c _ _ _ _ (by decide), up_c _ _ _ _ (by decide)]
  have k6 : V a 6 = v a 6 + 1 := by rw [← hV, up_s, up_c _ _ _ _ (by decide), up_c _ _ _ _ (by decide)]
  have k7 : V a 7 = mk c (GG v (a + 5) (v2 84) vb j) := by rw [← hV, up_c _ _ _ _ (by decide), up_s]
  have k8 : V a 8 = nI j := by rw [← hV, up_c _ _ _ _ (by decide), up_c _ _ _ _ (by decide), up_s]
  have hP := (hC.2.2.2.2.2 hvb).2.2.2.2.2.2
  have hGG : ∀ k, k < 12 → GG V (a + 5) s' vb j k = GG v (a + 5) (v2 84) vb j k := fun k hk => GG_congr (hv _ (by omega)) (hv _ (by omega)) (fun i q => e i (by omega) (by omega) (by omega) (by omega)) hk
  refine ⟨c, ⟨OKs_congr ho (fun i q => e i (by omega) (by omega) (by omega) (by omega)), CW_congr (CW_s h hc (fun i q => e i (by omega) (by omega) (by omega) (by omega))) (fun k q r => hv k (by omega)), ?_, ?_, ?_, ?_, ?_, ?_, ?_⟩, Or.inr ⟨e55, m, P, vb, L, j, hm, ?_, ?_, hvb, ?_, hj, hj0, k8, e56, ?_, ?_⟩⟩
  · rw [k2, e 50 (by decide) (by decide) (by decide) (by decide)]; exact h2
  · rw [k3, e 51 (by decide) (by decide) (by decide) (by decide)]; exact h3
  · rw [k4, e 52 (by decide) (by decide) (by decide) (by decide)]; exact h4
  · rw [k5, e 53 (by decide) (by decide) (by decide) (by decide)]; exact h5
  · rw [k6, e54, h6]
  · rw [k7, e57]
  · rw [hv (a + 5) (by omega)]; exact hC.2.2.2.2.1
  · rw [e 58 (by decide) (by decide) (by decide) (by decide)]; exact h58
  · rw [Wv_congr hm h58 (fun i q r => e i (by omega) (by omega) (by omega) (by omega))]
    exact CmdR_congr hC (hv _ (by omega)) (hv _ (by omega)) (hv _ (by omega))
  · exact AnsA_congr hA hc (hv _ (by omega)) (hv _ (by omega)) (hv _ (by omega)) (fun i q => e i (by omega) (by omega) (by omega) (by omega)) (fun i q => by have := hP i q; exact e _ (by omega) (by omega) (by omega) (by omega))
  · rw [e57]
    exact (mk_congr fun k hk => hGG k (by omega)).symm
  · rw [cn_congr' hc hGG]; exact hG
  · rw [s84, s84, pk_un (by decide), pk_us]
  · rw [s84, pk_us, s84, pk_un (by decide), hZ, pk_un (by decide), pk_un (by decide)]
  · rw [s84, s84, pk_un (by decide), pk_un (by decide), hZ, pk_un (by decide), pk_un (by decide)]
  · rw [s84, s84, pk_un (by decide), pk_un (by decide), hZ, pk_un (by decide), pk_un (by decide)]
  · rw [s84, s84, pk_un (by omega), pk_un (by omega), hZ, pk_un (by omega), pk_un (by omega)]
theorem GG_1 {v : gV} {e : Nat} {s : Nat → Int32} {vb j : Nat} (hj : 1 ≤ j) : GG v e s vb j = psB s (v (e + 1) j) (v (e + 2) j) (suitB s vb) := by
  unfold GG gS
  rw [if_neg (by omega)]
theorem GG_0 {v : gV} {e : Nat} {s : Nat → Int32} {vb : Nat} : GG v e s vb 0 = psB s (v (e + 1) 0) (v (e + 2) 0) (tgtB s) := by
  unfold GG gS
  rw [if_pos rfl]
theorem b_tail {v v2 : gV} {a c vb L m t : Nat} {P : Nat → Nat} {T x3 : Int32} (h : CW v (a + 1) (v2 84) c) (ho : OKs (v2 84) c) (h2 : v a 2 = v2 84 50) (h3 : v a 3 = v2 84 51) (h4 : v a 4 = v2 84 52) (h5 : v a 5 = v2 84 53) (h6 : v a 6 = v2 84 54) (h7 : v a 7 = 0) (h8 : v a 8 = -1) (hm : m ≤ 28) (h58 : v2 84 58 = nI m) (hC : CmdR v (a + 5) (Wv (v2 84)) P vb L) (hvb : vb ≤ 4) (hA : AnsA v (a + 5) (v2 84) c P vb L) (h13 : v2 81 13 = 0) (hT : (vb = 2 ∧ t < c ∧ T = pw t ∧ x3 = nI t) ∨ (vb ≠ 2 ∧ T = 0)) (hTt : vb = 2 → tgtB (v2 84) t = true) :
    ∃ R v' v2', ((sX3_carryOut_76 1000 a v (mk c (visB (v2 84))) T).bind fun q_4 => (sX3_countResult q_4.2 a q_4.1).bind fun q_5 => some (q_4.1, q_5)) = some (R, v') ∧ sX6_run_54 1000 v2 (nI vb) x3 = some (R, v2') ∧ SR v' a (v2' 84) ∧ (∀ k, k < a ∨ a + 4 < k → v' k = v k) ∧ fr v2 v2' ∧ PO R (v2 84) (v2' 84) := by
  have hc := ho.1
  have hT0 : 0 ≤ T := by
    rcases hT with ⟨_, q2, q3, _⟩ | ⟨_, q2⟩
    · rw [q3]; exact pw_pos (by omega)
    · rw [q2]; decide
  unfold sX3_carryOut_76 sX6_run_54
  rw [if_pos hT0, hC.2.1, k_suit h ho (by omega), ob, h13, if_pos (by decide)]
  obtain ⟨R, w, r2, w2, g1, g2, g3, g4⟩ := b_objs h ho h2 h3 hC hvb h13 (fun j q1 q2 => by
    have := hA j q2 (by omega)
    rw [GG_1 q1] at this
    exact this)
  rw [g1, ob, g2, ob]
  dsimp only
  unfold sX6_run_71
  rcases g4 with ⟨Q, q1, q2, q3, q4, q5, q6, qS⟩ | ⟨q1, q2, q3, q4⟩ | ⟨j, q0, q1, q2, q3, q4, q5⟩
  · rw [q2, q3, q4, q5, if_pos (mk_pos hc Q), if_pos (by decide)]
    obtain ⟨n, u, u2, i1, i2, i3, i4, i5, i6, i7, i8, i9, i10, i11, i12⟩ := b_exec (v := v) (v2 := w2) (Q := Q) (T := T) (x3 := x3) (vb := vb) (t := t) (by rw [q6]; exact h) (by rw [q6]; exact ho) (by rw [q6]; exact h2) (by rw [q6]; exact h3) hC.2.1 hvb q1 hT (by rw [q6]; exact qS) (by rw [q6]; exact hTt)
    rw [i1, ob, ob, i2, ob]
    dsimp only
    obtain ⟨y, y2, j1, j2, j3, j4, j5, j6⟩ := b_fin (v := u) (v2 := u2) (R := nI n) i4 i5 i6 i7 (by rw [i9 4 (by decide) (by decide), i11 52 (by decide), q6]; exact h4) (by rw [i9 5 (by decide) (by decide), i11 53 (by decide), q6]; exact h5) (by rw [i9 6 (by decide) (by decide), i11 54 (by decide), q6]; exact h6) (by rw [i9 7 (by decide) (by decide)]; exact h7) (by rw [i9 8 (by decide) (by decide)]; exact h8) (by rw [i8 (a + 5) (by omega)]; exact hC.2.2.2.2.1) (fun q => nI_pos (n := n) (by omega) (by rw [q]; decide))
    rw [j1, ob, j2]
    exact ⟨_, _, _, rfl, rfl, j3, fun k q => (j4 k (by omega)).trans (i8 k q), fr_trans g3 ⟨fun k q r => (j5 k r).trans (i10 k r), fun k q => by rw [j5 81 (by decide), i10 81 (by decide)]⟩, by rw [← q6]; exact PO_n i3 j6 i11 i12⟩
  · have hneg : ¬ 0 ≤ R := by rcases q1 with q | q | q <;> rw [q] <;> decide
    rw [if_neg hneg, q3, if_neg hneg, ob]
    dsimp only
    subst q2
    obtain ⟨y, y2, j1, j2, j3, j4, j5, j6⟩ := b_fin (v := w) (v2 := w2) (R := R) (by rw [q4]; exact h) (by rw [q4]; exact ho) (by rw [q4]; exact h2) (by rw [q4]; exact h3) (by rw [q4]; exact h4) (by rw [q4]; exact h5) (by rw [q4]; exact h6) h7 h8 hC.2.2.2.2.1 (by rcases q1 with q | q | q <;> rw [q] <;> decide)
    rw [j1, ob, j2]
    exact ⟨_, _, _, rfl, rfl, j3, fun k q => j4 k (by omega), fr_trans g3 ⟨fun k q r => j5 k r, fun k q => by rw [j5 81 (by decide)]⟩, by rw [← q4]; exact PO_f q1 j6⟩
  · rw [q1, if_neg (by decide), q4, if_neg (by decide), ob]
    dsimp only
    dsimp only at q2 q3 q5
    rw [← GG_1 (v := v) (e := a + 5) (s := v2 84) (vb := vb) q0.1] at q2 q3 q5
    rw [q3]
    obtain ⟨y, y2, j1, j2, j3, j4, j5, j6⟩ := b_askF (v := v) (v2 := v2) (Z := w2) h ho h2 h3 h4 h5 h6 hm h58 hC hvb hA q0.2 (by omega) q2 q5
    rw [j1, ob, j2]
    exact ⟨_, _, _, rfl, rfl, j3, fun k q => j4 k (by omega), fr_trans g3 ⟨fun k q r => j5 k r, fun k q => by rw [j5 81 (by decide)]⟩, j6⟩
theorem b_walk {v v2 : gV} {a c : Nat} (h : CW v (a + 1) (v2 84) c) (ho : OKs (v2 84) c) (b : Bool) :
    ∃ R v' v2', sX4_walk v (a + 1) (if b = true then 1 else -1) = some (R, v') ∧ sX6_walk v2 (if b = true then 1 else 0) = some (R, v2') ∧ (R = 0 ∨ R = 1) ∧ CW v' (a + 1) (v2' 84) c ∧ OKs (v2' 84) c ∧ (∀ k, k ≠ a + 1 → v' k = v k) ∧ (∀ k, k ≠ 84 → v2' k = v2 k) ∧ (∀ j, j ≠ 49 → v2' 84 j = v2 84 j) ∧ (R = 0 → ∀ j, v2' 84 j = v2 84 j) := by
  obtain ⟨r, hr, er⟩ := ho.2.2.1
  have hp49 : ¬ ((49 : Int32) < 0 ∨ 122 ≤ (49 : Int32).toNatClampNeg) := by decide
  have h49 : (49 : Int32).toNatClampNeg = 49 := by decide
  have e1 : sX6_walk v2 (if b = true then 1 else 0) = sX6_walk_16 v2 (v2 84 49) (if b = true then 1 else -1) := by
    unfold sX6_walk
    cases b with
    | false => rw [if_pos (by decide)]; rfl
    | true => rw [if_neg (by decide)]; rfl
  have step : ∀ x : Int32, x = nI r + (if b = true then 1 else -1) → (∃ r', r' < 4 ∧ x = nI r') → CW (up v (a + 1) 4 x) (a + 1) (upd (v2 84) 49 x) c ∧ OKs (upd (v2 84) 49 x) c := by
    intro x hx hx2
    obtain ⟨y1, y2, y3, y4⟩ := h
    obtain ⟨z1, z2, z3, z4, z5⟩ := ho
    refine ⟨⟨?_, ?_, ?_, fun k hk => ?_⟩, z1, by rw [pk_un (by decide)]; exact z2, by rw [pk_us]; exact hx2, fun k hk => ?_, by rw [pk_un (by decide)]; exact z5.1, LIM_congr z5.2.1 (fun k hk => pk_un (by omega)), XO_cong z5.2.2.1 z1 (OK_in z4 z1) (fun k hk => ⟨pk_un (by omega), pk_un (by omega), pk_un (by omega), pk_un (by omega)⟩), XM_cong z5.2.2.2 (pk_un (by decide))⟩
    · rw [up_c _ _ _ _ (by decide)]; exact y1
    · rw [up_s, pk_us]
    · rw [up_c _ _ _ _ (by decide), y3]
      refine mk_congr fun k _ => ?_
      unfold opB
      rw [pk_un (by omega)]
    · rw [up_r _ _ _ _ (by omega), up_r _ _ _ _ (by omega), up_r _ _ _ _ (by omega), pk_un (by omega), pk_un (by omega), pk_un (by omega)]
      exact y4 k hk
    · have := z4 k hk
      unfold OKo at this ⊢
      rw [pk_un (by omega), pk_un (by omega), pk_un (by omega), pk_un (by omega)]
      exact this
  have tab : ∀ r, r < 4 → ∀ b : Bool, (nI r + (if b = true then 1 else -1) < 0 ∧ True) ∨ (¬ nI r + (if b = true then 1 else -1) < 0 ∧ 4 ≤ nI r + (if b = true then 1 else -1) ∧ 3 < nI r + (if b = true then 1 else -1)) ∨ (¬ nI r + (if b = true then 1 else -1) < 0 ∧ ¬ 4 ≤ nI r + (if b = true then 1 else -1) ∧ ¬ 3 < nI r + (if b = true then 1 else -1) ∧ ∃ r', r' < 4 ∧ nI r + (if b = true then 1 else -1) = nI r') := by decide +kernel
  have st := step _ rfl
  have tb := tab r hr b
  rw [e1]
  unfold sX4_walk sX5_isRoom sX6_walk_16 sX6_walk_46 sX6_in
  rw [h.2.1, er]
  simp only [if_pos hp49, h49, ob]
  generalize (nI r + (if b = true then (1 : Int32) else -1)) = x at st tb ⊢
  rcases tb with ⟨t1, _⟩ | ⟨t1, t2, t3⟩ | ⟨t1, t2, t3, t4⟩
  · rw [if_pos t1, if_pos t1, ob, ob, if_pos rfl, if_pos rfl, if_pos rfl]
    refine ⟨_, _, _, rfl, rfl, Or.inl rfl, ?_, ?_, fun _ _ => rfl, fun k q => up_r _ _ _ _ q, fun j q => by rw [s84, pk_un q], fun _ j => by
      rw [s84]
      by_cases e9 : j = 49
      · rw [e9, pk_us, er]
      · rw [pk_un e9]⟩
    · rw [s84, ← er]
      exact CW_s h ho.1 (fun j _ => by by_cases e : j = 49; rw [e, pk_us]; rw [pk_un e])
    · rw [s84, ← er]
      exact OKs_congr ho (fun j _ => by by_cases e : j = 49; rw [e, pk_us]; rw [pk_un e])
  · rw [if_neg t1, if_neg t1, if_pos t2, if_pos t3, ob, ob, if_pos rfl, if_pos rfl, if_pos rfl]
    refine ⟨_, _, _, rfl, rfl, Or.inl rfl, ?_, ?_, fun _ _ => rfl, fun k q => up_r _ _ _ _ q, fun j q => by rw [s84, pk_un q], fun _ j => by
      rw [s84]
      by_cases e9 : j = 49
      · rw [e9, pk_us, er]
      · rw [pk_un e9]⟩
    · rw [s84, ← er]
      exact CW_s h ho.1 (fun j _ => by by_cases e : j = 49; rw [e, pk_us]; rw [pk_un e])
    · rw [s84, ← er]
      exact OKs_congr ho (fun j _ => by by_cases e : j = 49; rw [e, pk_us]; rw [pk_un e])
  · rw [if_neg t1, if_neg t1, if_neg t2, if_neg t3, ob, ob, if_neg one_ne, if_neg one_ne, if_neg one_ne]
    refine ⟨_, _, _, rfl, rfl, Or.inr rfl, ?_, ?_, fun k q => up_r _ _ _ _ q, fun k q => up_r _ _ _ _ q, fun j q => by rw [s84, pk_un q], fun q => absurd q (by decide)⟩
    · rw [s84]; exact (st t4).1
    · rw [s84]; exact (st t4).2
theorem b_run {v v2 : gV} {a c vb L m : Nat} {P : Nat → Nat} (h : CW v (a + 1) (v2 84) c) (ho : OKs (v2 84) c) (h2 : v a 2 = v2 84 50) (h3 : v a 3 = v2 84 51) (h4 : v a 4 = v2 84 52) (h5 : v a 5 = v2 84 53) (h6 : v a 6 = v2 84 54) (h7 : v a 7 = 0) (h8 : v a 8 = -1) (hm : m ≤ 28) (h58 : v2 84 58 = nI m) (hC : CmdR v (a + 5) (Wv (v2 84)) P vb L) (hA : vb ≤ 4 → AnsA v (a + 5) (v2 84) c P vb L) :
    ∃ R v' v2', ((sX3_carryOut 1000 v a).bind fun q_4 => (sX3_countResult q_4.2 a q_4.1).bind fun q_5 => some (q_4.1, q_5)) = some (R, v') ∧ sX6_run 1000 v2 = some (R, v2') ∧ SR v' a (v2' 84) ∧ (∀ k, k < a ∨ a + 4 < k → v' k = v k) ∧ fr v2 v2' ∧ PO R (v2 84) (v2' 84) := by
  have hc := ho.1
  obtain ⟨hvb6, hv3, hW0, _, hbool, _⟩ := id hC
  have h59 : v2 84 59 - 10 = nI vb := by
    have e : v2 84 59 = nI (10 + vb) := by
      unfold Wv at hW0
      rw [if_neg (by decide)] at hW0
      by_cases z : v2 84 58 ≤ nI 0
      · rw [if_pos z] at hW0
        exact absurd hW0 (fun q => nI_pos (n := 10 + vb) (by omega) (by rw [← q]; decide))
      · rw [if_neg z] at hW0
        exact hW0
    rw [e, show (10 + vb) = vb + 10 from Nat.add_comm _ _]
    exact pk_sub (a := vb + 10) (b := 10) (by omega)
  unfold sX3_carryOut sX6_run
  rw [hv3, ob, h59]
  have f0 : fr v2 (up v2 81 13 0) := fr_81 (fr_refl _) (by decide) _
  have walk : ∀ b : Bool, ∃ R v' v2', (((sX4_walk v (a + 1) (if b = true then 1 else -1)).bind fun q_8 => some (q_8.1, q_8.2)).bind fun q_4 => (sX3_countResult q_4.2 a q_4.1).bind fun q_5 => some (q_4.1, q_5)) = some (R, v') ∧ sX6_run_34 1000 (up v2 81 13 0) (if b = true then 1 else 0) = some (R, v2') ∧ SR v' a (v2' 84) ∧ (∀ k, k < a ∨ a + 4 < k → v' k = v k) ∧ fr v2 v2' ∧ PO R (v2 84) (v2' 84) := by
    intro b
    obtain ⟨R, w, w2, g1, g2, g3, g4, g5, g6, g7, g8, g9⟩ := b_walk (v := v) (v2 := up v2 81 13 0) (a := a) (c := c) (by rw [u84]; exact h) (by rw [u84]; exact ho) b
    rw [u84] at g8 g9
    unfold sX6_run_34
    rw [g1, ob, ob, g2, ob]
    dsimp only
    obtain ⟨y, y2, j1, j2, j3, j4, j5, j6⟩ := b_fin (v := w) (v2 := w2) (R := R) g4 g5 (by rw [g6 a (by omega), g8 50 (by decide)]; exact h2) (by rw [g6 a (by omega), g8 51 (by decide)]; exact h3) (by rw [g6 a (by omega), g8 52 (by decide)]; exact h4) (by rw [g6 a (by omega), g8 53 (by decide)]; exact h5) (by rw [g6 a (by omega), g8 54 (by decide)]; exact h6) (by rw [g6 a (by omega)]; exact h7) (by rw [g6 a (by omega)]; exact h8) (by rw [g6 (a + 5) (by omega)]; exact hbool) (by rcases g3 with q | q <;> rw [q] <;> decide)
    rw [j1, ob, j2]
    exact ⟨_, _, _, rfl, rfl, j3, fun k q => (j4 k (by omega)).trans (g6 k (by omega)), fr_trans f0 ⟨fun k q r => (j5 k r).trans (g7 k r), fun k q => by rw [j5 81 (by decide), g7 81 (by decide)]⟩, by
      rcases g3 with q | q
      · rw [q] at j6 ⊢
        exact PO_n (n := 0) (by decide) j6 (fun j hj => g8 j (by omega)) (fun _ j _ => g9 q j)
      · rw [q] at j6 ⊢
        exact PO_n (n := 1) (by decide) j6 (fun j hj => g8 j (by omega)) (fun z => by cases z)⟩
  by_cases hvb : vb ≤ 4
  · have n5 : ¬ nI vb = 5 := fun q => by have := (nI_eq (b := 5) (by omega) (by decide)).mp q; omega
    have n6 : ¬ nI vb = 6 := fun q => by have := (nI_eq (b := 6) (by omega) (by decide)).mp q; omega
    rw [if_neg n5, if_neg n6, k_vis h ho, ob, if_pos (show nI vb < 5 from nI_lt (b := 5) (by omega) (by decide))]
    have hA := hA hvb
    by_cases e2 : vb = 2
    · have e2' : nI vb = 2 := by rw [e2]; rfl
      rw [if_pos e2', if_pos e2', show (4 : Int32) = nI 4 from rfl, k_suit h ho (by decide), ob, suit_4]
      obtain ⟨R, w, r2, w2, g1, g2, g3, g4⟩ := b_tgt (v := v) (v2 := up v2 81 13 0) (a := a) (c := c) (vb := vb) (L := L) (P := P) (by rw [u84]; exact h) (by rw [u84]; exact ho) (by rw [u84]; exact h2) (by rw [u84]; exact hC) e2 (by rw [u81, if_pos rfl]) (by
        have := hA 0 (by omega) (fun _ => e2)
        rw [GG_0] at this
        rw [u84]
        exact this)
      rw [u84] at g1 g4
      rw [g1, ob, g2, ob]
      dsimp only
      rcases g4 with ⟨k, q1, q2, q3, q4, q5, q6, q7⟩ | ⟨q1, q2, q3, q4⟩ | ⟨q1, q2, q3, q4, q5⟩
      · subst q4
        obtain ⟨R', y, y2, j1, j2, j3, j4, j5, j6⟩ := b_tail (v := w) (v2 := w2) (a := a) (c := c) (vb := vb) (L := L) (m := m) (t := k) (P := P) (T := R) (x3 := r2) (by rw [q6]; exact h) (by rw [q6]; exact ho) (by rw [q6]; exact h2) (by rw [q6]; exact h3) (by rw [q6]; exact h4) (by rw [q6]; exact h5) (by rw [q6]; exact h6) h7 h8 hm (by rw [q6]; exact h58) (by rw [q6]; exact hC) hvb (by rw [q6]; exact hA) q5 (Or.inl ⟨e2, q1, q2, q3⟩) (fun _ => by rw [q6]; exact q7)
        rw [q6] at j1 j6
        exact ⟨_, _, _, j1, j2, j3, j4, fr_trans (fr_trans f0 g3) j5, j6⟩
      · subst q2
        have hneg : ¬ 0 ≤ R := by rcases q1 with q | q | q <;> rw [q] <;> decide
        unfold sX3_carryOut_76 sX6_run_54 sX6_run_71
        rw [if_neg hneg, ob, q3, if_neg hneg, if_neg hneg]
        dsimp only
        obtain ⟨y, y2, j1, j2, j3, j4, j5, j6⟩ := b_fin (v := w) (v2 := w2) (R := R) (by rw [q4]; exact h) (by rw [q4]; exact ho) (by rw [q4]; exact h2) (by rw [q4]; exact h3) (by rw [q4]; exact h4) (by rw [q4]; exact h5) (by rw [q4]; exact h6) h7 h8 hbool (by rcases q1 with q | q | q <;> rw [q] <;> decide)
        rw [j1, ob, j2]
        exact ⟨_, _, _, rfl, rfl, j3, fun k q => j4 k (by omega), fr_trans (fr_trans f0 g3) ⟨fun k q r => j5 k r, fun k q => by rw [j5 81 (by decide)]⟩, by rw [← q4]; exact PO_f q1 j6⟩
      · unfold sX3_carryOut_76 sX6_run_54 sX6_run_71
        rw [q1, if_neg (by decide), ob, q4, if_neg (by decide), if_neg (by decide)]
        dsimp only
        rw [← GG_0 (v := v) (e := a + 5) (s := v2 84) (vb := vb)] at q2 q3 q5
        rw [q3]
        obtain ⟨y, y2, j1, j2, j3, j4, j5, j6⟩ := b_askF (v := v) (v2 := v2) (Z := w2) h ho h2 h3 h4 h5 h6 hm h58 hC hvb hA (by omega) (fun _ => e2) q2 q5
        rw [j1, ob, j2]
        exact ⟨_, _, _, rfl, rfl, j3, fun k q => j4 k (by omega), fr_trans (fr_trans f0 g3) ⟨fun k q r => j5 k r, fun k q => by rw [j5 81 (by decide)]⟩, j6⟩
    · have e2' : ¬ nI vb = 2 := fun q => e2 ((nI_eq (b := 2) (by omega) (by decide)).mp q)
      rw [if_neg e2', if_neg e2']
      obtain ⟨R', y, y2, j1, j2, j3, j4, j5, j6⟩ := b_tail (v := v) (v2 := up v2 81 13 0) (a := a) (c := c) (vb := vb) (L := L) (m := m) (t := 0) (P := P) (T := 0) (x3 := 0) (by rw [u84]; exact h) (by rw [u84]; exact ho) (by rw [u84]; exact h2) (by rw [u84]; exact h3) (by rw [u84]; exact h4) (by rw [u84]; exact h5) (by rw [u84]; exact h6) h7 h8 hm (by rw [u84]; exact h58) (by rw [u84]; exact hC) hvb (by rw [u84]; exact hA) (by rw [u81, if_pos rfl]) (Or.inr ⟨e2, rfl⟩) (fun q => absurd q e2)
      rw [u84] at j1 j6
      exact ⟨_, _, _, j1, j2, j3, j4, fr_trans f0 j5, j6⟩
  · rw [if_neg (show ¬ nI vb < 5 from nI_nlt (b := 5) (by omega) (by omega))]
    by_cases e5 : vb = 5
    · have e5' : nI vb = 5 := by rw [e5]; rfl
      rw [if_pos e5', if_pos e5']
      exact walk true
    · have e6' : nI vb = 6 := by rw [show vb = 6 by omega]; rfl
      rw [e6', if_neg (by decide), if_pos rfl, if_neg (by decide)]
      exact walk false
