/-! before the first step: no versions, no facts, every day free -/
section
variable {k f e v i g fk fd fa fv : Nat → Int32} {n q K L : Nat} {h1 h2 h3 rc l3 : Int32} {rk rd rv xs : Nat → Int32}
theorem S_L {kx : Int32 → Int32 → Int32 →  tD_ → tS_ → tV_ → tF_ → tR_ → tY_ → tZ_ → Option Unit} (hK : K ≤ 3) : ∀ c m' t (zv : Nat → Nat → Int32), t + c = K → c < m' →
    ∃ zv' : Nat → Nat → Int32, (∀ key d, key < K → t ≤ key → d < 1000 → zv' key d = -1) ∧ (∀ key, key < t → zv' key = zv key) ∧ f_law_S_L48 xs L K kx m' (nI K) l3 (nI t) (h1, h2, h3) () (k, f, e, v, i, g, nI n) (fk, fd, fa, fv, nI q) (rk, rd, rv, rc) () zv = kx (nI K) l3 (nI K) (h1, h2, h3) () (k, f, e, v, i, g, nI n) (fk, fd, fa, fv, nI q) (rk, rd, rv, rc) () zv' := by
  intro c
  induction c with
  | zero =>
    intro m' t zv g1 g2
    obtain ⟨m', rfl⟩ := ex_S g2
    have e9 : t = K := by omega
    subst e9
    refine ⟨zv, fun key d a b => by omega, fun key _ => rfl, ?_⟩
    rw [e_law_S_L48]
    unfold f_law_S_S48
    dsimp only
    rw [if_pos (k_le (by omega) (by omega) (by omega))]
  | succ c ih =>
    intro m' t zv g1 g2
    obtain ⟨m', rfl⟩ := ex_S g2
    obtain ⟨zv', a1, a2, a3⟩ := ih m' (t + 1) (rup zv t (fl_ 0 1000 (-1) (zv t))) (by omega) (by omega)
    refine ⟨zv', fun key d hk h1 hd => ?_, fun key h => ?_, ?_⟩
    · by_cases q9 : key = t
      · subst q9
        rw [a2 key (by omega), rup_s, fl_i (by omega)]
      · exact a1 key d hk (by omega) hd
    · rw [a2 key (by omega), rup_n (by omega)]
    · rw [e_law_S_L48]
      unfold f_law_S_S48
      dsimp only
      have hf : f_L_fill 0 1000 (-1) (zv t) = some (fl_ 0 1000 (-1) (zv t)) := L_fill_I (a := 0) (b := 1000) (by omega) (by omega)
      rw [if_neg (k_nle (by omega) (by omega) (by omega)), gd_I (by omega) (by omega), cl_I (show t < 2 ^ 31 by omega), hf, bd_s, nm_s, S_I]
      exact a3
theorem S_ok (hK : K ≤ 3) {zv : Nat → Nat → Int32} {k107 : Int32 → Int32 → Int32 → Int32 → Int32 → Int32 →  tD_ → tS_ → tV_ → tF_ → tR_ → tI_ → tI_ → tY_ → tZ_ → Option Unit} (hk : ∀ (st : Nat) (zv' : Nat → Nat → Int32), st ≤ 49 → (∀ key d, key < K → d < 1000 → zv' key d = -1) → k107 (nI K) l3 0 0 (nI st) 0 (h1, h2, h3) () (k, f, e, v, i, g, nI n) (fk, fd, fa, fv, nI q) (rk, rd, rv, rc) (fun _ => 0) (fun _ => 0) () zv' = some ()) :
    f_law_S xs L K k107 (nI K) l3 (h1, h2, h3) () (k, f, e, v, i, g, nI n) (fk, fd, fa, fv, nI q) (rk, rd, rv, rc) () zv = some () := by
  obtain ⟨zv', a1, -, a3⟩ := S_L (xs := xs) (L := L) (l3 := l3) (h1 := h1) (h2 := h2) (h3 := h3) (rc := rc) (rk := rk) (rd := rd) (rv := rv) (k := k) (f := f) (e := e) (v := v) (i := i) (g := g) (n := n) (fk := fk) (fd := fd) (fa := fa) (fv := fv) (q := q) (kx := f_law_S_X48 xs L K k107) hK K fu_ 0 zv (by omega) (by unfold fu_; omega)
  unfold f_law_S
  dsimp only
  refine Eq.trans a3 ?_
  unfold f_law_S_X48
  dsimp only
  obtain ⟨t, ht, et⟩ := dw_r (xs := xs) (L := L) (k := 2) (N := 45) (by omega) (by omega)
  rw [gp_I (by decide) (by decide), nm_s, show dw_ xs L 2 45 = nI t from et, show (5 : Int32) + nI t = nI (5 + t) from nI_add 5 t]
  exact hk (5 + t) zv' (by omega) (fun key d h1 h2 => a1 key d h1 (Nat.zero_le _) h2)
theorem JS_0 {zv : Nat → Nat → Int32} (hK1 : 1 ≤ K) (hK : K ≤ 3) (hz : ∀ key d, key < K → d < 1000 → zv key d = -1) : JS_ K 0 (fun _ => 0) (fun _ => 0) (fun _ => 0) (fun _ => 0) (fun _ => 0) (fun _ => 0) 0 (fun _ => 0) (fun _ => 0) (fun _ => 0) (fun _ => 0) 0 (fun _ => 0) (fun _ => 0) zv := by
  refine ⟨⟨hK1, hK, by omega, by omega, by omega⟩, ⟨⟨by omega, fun j h => by omega, fun j h => by omega, fun j l h => by omega⟩, fun j h => by omega, fun key d h1 h2 => hz key d h1 h2, fun j h => by omega⟩, ⟨by omega, fun t h => by omega⟩, fun t h => by omega, fun t h => by omega⟩
theorem R_ok {k35 : Int32 → Int32 →  tD_ → tS_ → tV_ → tF_ → tR_ → Option Unit} (hk : ∀ K9 sp : Nat, 1 ≤ K9 → K9 ≤ 3 → 0 < sp → sp ≤ 1000 → k35 (nI K9) (nI sp) (h1, h2, h3) () (k, f, e, v, i, g, nI n) (fk, fd, fa, fv, nI q) (rk, rd, rv, rc) = some ()) : f_law_R xs L K k35 (h1, h2, h3) () (k, f, e, v, i, g, nI n) (fk, fd, fa, fv, nI q) (rk, rd, rv, rc) = some () := by
  obtain ⟨t, ht, et⟩ := dw_r (xs := xs) (L := L) (k := 0) (N := 3) (by omega) (by omega)
  have e1 : (1 : Int32) + dw_ xs L 0 3 = nI (1 + t) := by rw [show dw_ xs L 0 3 = nI t from et]; exact nI_add 1 t
  unfold f_law_R
  dsimp only
  rw [gp_I (by decide) (by decide), nm_s, gp_I (by decide) (by decide), nm_s]
  unfold f_law_R_J34
  dsimp only
  rw [e1]
  split
  · exact hk (1 + t) 1000 (by omega) (by omega) (by omega) (by omega)
  · exact hk (1 + t) 12 (by omega) (by omega) (by omega) (by omega)
end
