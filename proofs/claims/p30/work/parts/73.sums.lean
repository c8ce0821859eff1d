/-! the law's two sums of a picture, as functions of the picture's own row -/
def wdF (s : Nat → Int32) : Nat → Nat → Int64 → Int64
  | 0, _, a => a
  | d + 1, i, a => wdF s d (i + 1) (((a * 37) + ((2 * s (4 * i + 3)).toInt64)) + (bI (opB s i)).toInt64)
theorem wdF_cong {s s' : Nat → Int32} (e : ∀ j, j < 50 → s' j = s j) : ∀ d i a, i + d ≤ 12 → wdF s' d i a = wdF s d i a := by
  intro d
  induction d with
  | zero => intro i a _; rfl
  | succ d ih =>
    intro i a hi
    show wdF s' d (i + 1) _ = wdF s d (i + 1) _
    rw [e _ (by omega), op_congr e (by omega)]
    exact ih _ _ (by omega)
theorem q_world8 {v w : gV} {c : Nat} (h : IB v w c) : ∀ d i a K, i + d = c → sL_world_8 1000 (K + 1 + d) v a (nI i) = some (wdF (w 84) d i a) := by
  have hc := h.1.1
  intro d
  induction d with
  | zero =>
    intro i a K hi
    show sL_world_8 1000 (K + 1) v a (nI i) = _
    unfold sL_world_8
    rw [q_objects h, ob, if_pos (s_ge (c := c) rfl (by omega) hc)]
    rfl
  | succ d ih =>
    intro i a K hi
    show sL_world_8 1000 ((K + 1 + d) + 1) v a (nI i) = _
    unfold sL_world_8
    rw [q_objects h, ob, if_neg (s_le (c := c) rfl (by omega) hc), q_place h (by omega), ob, q_isOpen h (by omega), ob, show nI i + 1 = nI (i + 1) from nI_add i 1]
    have e := fun x => ih (i + 1) x K (by omega)
    show _ = some (wdF (w 84) d (i + 1) _)
    cases z : opB (w 84) i
    · rw [if_pos bI_f, e]
      rfl
    · rw [if_neg (by decide), e]
      rfl
def wdA (s : Nat → Int32) (c : Nat) : Int64 := wdF s c 0 (s 49).toInt64
theorem q_world {v w : gV} {c : Nat} (h : IB v w c) : sL_world 1000 v = some (wdA (w 84) c) := by
  have hc := h.1.1
  unfold sL_world
  rw [q_room h, ob]
  have e := q_world8 h c 0 (w 84 49).toInt64 (999 - c) (by omega)
  rw [show (999 - c) + 1 + c = 1000 by omega] at e
  exact e
theorem wdA_cong {s s' : Nat → Int32} {c : Nat} (hc : c ≤ 12) (e : ∀ j, j < 50 → s' j = s j) : wdA s' c = wdA s c := by
  unfold wdA
  rw [e 49 (by decide)]
  exact wdF_cong e c 0 _ (by omega)
def mx (a : Int64) (b : Int32) : Int64 := (31 * a) + b.toInt64
theorem q_mixed (a : Int64) (b : Int32) : sX5_mixed a b = some (mx a b) := rfl
def dgS (s : Nat → Int32) (c : Nat) : Nat → Nat → Int64 → Int64
  | 0, _, a => a
  | d + 1, i, a => dgS s c d (i + 1) (mx a (mk c (suitB s i)))
def dgO (s : Nat → Int32) : Nat → Nat → Int64 → Int64
  | 0, _, a => a
  | d + 1, i, a => dgO s d (i + 1) (mx (mx (mx (mx a (s (4 * i + 1))) (s (4 * i + 2))) (s (4 * i + 3))) (bI (opB s i)))
def dgF (s : Nat → Int32) (c : Nat) : Int64 := dgS s c 5 0 (dgO s c 0 (mx (mx (mx (mx (mx (mx (mx (mx (mx 8144 (nI c)) (s 49)) (mk c (visB s))) (s 57)) (s 50)) (s 51)) (s 52)) (s 53)) (s 54)))
theorem dgS_cong {s s' : Nat → Int32} {c : Nat} (hc : c ≤ 12) (e : ∀ j, j < 50 → s' j = s j) : ∀ d i a, dgS s' c d i a = dgS s c d i a := by
  intro d
  induction d with
  | zero => intro i a; rfl
  | succ d ih =>
    intro i a
    show dgS s' c d (i + 1) _ = dgS s c d (i + 1) _
    rw [mk_congr (Q := suitB s i) (fun k hk => suit_congr e (by omega) i)]
    exact ih _ _
theorem dgO_cong {s s' : Nat → Int32} (e : ∀ j, j < 50 → s' j = s j) : ∀ d i a, i + d ≤ 12 → dgO s' d i a = dgO s d i a := by
  intro d
  induction d with
  | zero => intro i a _; rfl
  | succ d ih =>
    intro i a hi
    show dgO s' d (i + 1) _ = dgO s d (i + 1) _
    rw [e _ (by omega), e (4 * i + 2) (by omega), e (4 * i + 3) (by omega), op_congr e (by omega)]
    exact ih _ _ (by omega)
theorem dgF_cong {s s' : Nat → Int32} {c : Nat} (hc : c ≤ 12) (e : ∀ j, j < 58 → s' j = s j) : dgF s' c = dgF s c := by
  have e5 : ∀ j, j < 50 → s' j = s j := fun j hj => e j (by omega)
  unfold dgF
  rw [dgS_cong hc e5, dgO_cong e5 c 0 _ (by omega), e 49 (by decide), mk_congr (P := visB s') (Q := visB s) (fun k hk => vis_congr e5 (by omega)), e 57 (by decide), e 50 (by decide), e 51 (by decide), e 52 (by decide), e 53 (by decide), e 54 (by decide)]
theorem q_d171 {v w : gV} {c : Nat} (h : IB v w c) : ∀ d i a K, i + d = 5 → sX5_digest_171 1000 (K + 1 + d) v a (nI i) = some (dgS (w 84) c d i a) := by
  intro d
  induction d with
  | zero =>
    intro i a K hi
    show sX5_digest_171 1000 (K + 1) v a (nI i) = _
    have : i = 5 := by omega
    subst this
    unfold sX5_digest_171
    rw [if_pos (by decide)]
    rfl
  | succ d ih =>
    intro i a K hi
    show sX5_digest_171 1000 ((K + 1 + d) + 1) v a (nI i) = _
    unfold sX5_digest_171
    rw [if_neg (show ¬ (4 : Int32) < nI i from nI_nlt (a := 4) (by omega) (by decide)), k_suit h.2.1 h.1 (by omega), ob, q_mixed, ob, show nI i + 1 = nI (i + 1) from nI_add i 1, ih (i + 1) _ K (by omega)]
    rfl
theorem q_d96 {v w : gV} {c : Nat} (h : IB v w c) : ∀ d i a K, i + d = c → sX5_digest_96 1000 (K + 1 + d) v a (nI i) = some (dgS (w 84) c 5 0 (dgO (w 84) d i a)) := by
  have hc := h.1.1
  intro d
  induction d with
  | zero =>
    intro i a K hi
    show sX5_digest_96 1000 (K + 1) v a (nI i) = _
    unfold sX5_digest_96
    rw [h.2.1.1, if_pos (s_ge (c := c) rfl (by omega) hc)]
    exact q_d171 h 5 0 a 994 (by decide)
  | succ d ih =>
    intro i a K hi
    have y := h.2.1.2.2.2 i (by omega)
    show sX5_digest_96 1000 ((K + 1 + d) + 1) v a (nI i) = _
    unfold sX5_digest_96
    rw [h.2.1.1, if_neg (s_le (c := c) rfl (by omega) hc), if_neg (ge_12 (by omega)), if_pos (in_12 (by omega)), q_mixed, ob, if_pos (in_12 (by omega)), q_mixed, ob, if_pos (in_12 (by omega)), q_mixed, ob, h.2.1.2.2.1, shr1 hc _ (by omega), q_mixed, ob, cl_12 (by omega), show v 10 i = _ from y.1, show v 11 i = _ from y.2.1, show v 12 i = _ from y.2.2, show nI i + 1 = nI (i + 1) from nI_add i 1, ih (i + 1) _ K (by omega), decide_eq_true (show i < c by omega), Bool.true_and]
    rfl
theorem q_digest {v w : gV} {c : Nat} (h : IB v w c) : sX5_digest 1000 v = some (dgF (w 84) c) := by
  have hc := h.1.1
  unfold sX5_digest
  rw [q_objects h, ob, q_mixed, ob, q_room h, ob, q_mixed, ob, q_visible h, ob, q_mixed, ob, q_candidates h, ob, q_mixed, ob, q_it h, ob, q_mixed, ob, q_them h, ob, q_mixed, ob, q_executed h, ob, q_mixed, ob, q_failed h, ob, q_mixed, ob, q_asked h, ob, q_mixed, ob]
  have e := q_d96 h c 0 (mx (mx (mx (mx (mx (mx (mx (mx (mx 8144 (nI c)) (w 84 49)) (mk c (visB (w 84)))) (w 84 57)) (w 84 50)) (w 84 51)) (w 84 52)) (w 84 53)) (w 84 54)) (999 - c) (by omega)
  rw [show (999 - c) + 1 + c = 1000 by omega] at e
  exact e
