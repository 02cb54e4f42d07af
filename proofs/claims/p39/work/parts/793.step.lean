/-! the law's facts, the state between two steps, draws -/
def JF_ (K : Nat) (k f e g : Nat → Int32) (n : Nat) (fk fd fa fv : Nat → Int32) (q : Nat) (xv : Nat → Int32) : Prop :=
  FI_ k f e g n fk fd fv q ∧ (∀ t, t < q → (fk t).toInt < (K : Int)) ∧ ∀ t, t < q → xv (3 * t) = fk t ∧ xv (3 * t + 1) = fd t ∧ xv (3 * t + 2) = fa t
def JS_ (K m : Nat) (k f e v i g : Nat → Int32) (n : Nat) (fk fd fa fv : Nat → Int32) (q : Nat) (wv xv : Nat → Int32) (zv : Nat → Nat → Int32) : Prop :=
  (1 ≤ K ∧ K ≤ 3 ∧ n ≤ m ∧ q ≤ m ∧ m ≤ 50) ∧ JV_ K k f e v i g n zv wv ∧ JF_ K k f e g n fk fd fa fv q xv
def JM_ (mw q : Nat) (h3 : Int32) (k f e g : Nat → Int32) (n : Nat) (fk fd uv : Nat → Int32) : Prop := mw ≤ q ∧ h3 = fo_ (mv_ (onF_ k f e g n fk fd) uv) mw 0 0
section
variable {k f e v i g k' f' e' v' i' g' fk fd fa fv wv wv' xv uv : Nat → Int32} {n n' q K key day m : Nat} {zv zv' : Nat → Nat → Int32} {val h1 h2 h3 rc r : Int32} {rk rd rv : Nat → Int32}
theorem fact_at (hF : JF_ K k f e g n fk fd fa fv q xv) {t : Nat} (ht : t < q) : ∃ a b, a < K ∧ b < 1000 ∧ fk t = nI a ∧ fd t = nI b := by
  obtain ⟨⟨-, hI⟩, hk, -⟩ := hF
  obtain ⟨⟨h1, -⟩, ⟨h2, h3⟩, -⟩ := hI t ht
  obtain ⟨a, ha, e1, t1⟩ := toI h1
  obtain ⟨b, hb, e2, t2⟩ := toI h2
  have := hk t ht
  exact ⟨a, b, by omega, by omega, e1, e2⟩
theorem onF_dy {t a b : Nat} (e1 : fk t = nI a) (e2 : fd t = nI b) : onF_ k f e g n fk fd t = dy_ k f e g n a b := by
  unfold onF_ dy_
  rw [e1, e2]
theorem fv_zv (hJ : JV_ K k f e v i g n zv wv) (hF : JF_ K k f e g n fk fd fa fv q xv) {t : Nat} (ht : t < q) : zv (fk t).toNatClampNeg (fd t).toNatClampNeg = fv t := by
  obtain ⟨a, b, ha, hb, e1, e2⟩ := fact_at hF ht
  have hn := hJ.1.1
  by_cases hK : K < 2 ^ 31
  · rw [(hF.1.2 t ht).2.2.2, onF_dy e1 e2, e1, e2, cl_I (by omega), cl_I (by omega)]
    exact hJ.2.2.1 a b ha hb
  · have h1 := (hF.1.2 t ht).1.2
    obtain ⟨a2, ha2, e3, t3⟩ := toI (hF.1.2 t ht).1.1
    rw [(hF.1.2 t ht).2.2.2, onF_dy e3 e2, e3, e2, cl_I (by omega), cl_I (by omega)]
    exact hJ.2.2.1 a2 b (by omega) hb
theorem JF_next (hK : K < 2 ^ 31) (hJ : JV_ K k f e v i g n zv wv) (hF : JF_ K k f e g n fk fd fa fv q xv) (hJ' : JV_ K k' f' e' v' i' g' n' zv' wv') (hc : ∀ a b, a < K → b < 1000 → ¬ zv a b = -1 → ¬ zv' a b = -1) :
    JF_ K k' f' e' g' n' fk fd fa (fun t => if t < q then onF_ k' f' e' g' n' fk fd t else fv t) q xv := by
  refine ⟨⟨hF.1.1, fun t ht => ?_⟩, hF.2.1, hF.2.2⟩
  obtain ⟨a, b, ha, hb, e1, e2⟩ := fact_at hF ht
  obtain ⟨c1, c2, c3, c4⟩ := hF.1.2 t ht
  refine ⟨c1, c2, ?_, if_pos ht⟩
  rw [e1, e2]
  rw [e1, e2] at c3
  refine (dy_cv hJ'.1.1).mp ?_
  rw [← hJ'.2.2.1 a b ha hb]
  refine hc a b ha hb ?_
  rw [hJ.2.2.1 a b ha hb]
  exact (dy_cv hJ.1.1).mpr c3
theorem iK_I {a : Nat} (h : a < 8) : iK_ (nI a) := by unfold iK_; rw [nI_toInt (by omega)]; omega
theorem iD_I {a : Nat} (h : a < 1000) : iD_ (nI a) := by unfold iD_; rw [nI_toInt (by omega)]; omega
theorem x5_change {a b : Int32} (hk : iK_ a) (hd : iD_ b) (hp : f_X4_put a b val (k, f, e, v, i, g, nI n) = some (r, (k', f', e', v', i', g', nI n'))) (hr : ¬ r = -1) (hn : n' ≤ 60) (hq : q ≤ 60) :
    f_X5_change a b val (h1, h2, h3) () (k, f, e, v, i, g, nI n) (fk, fd, fa, fv, nI q) (rk, rd, rv, rc) = some (Except.ok r, (h1, h2, fo_ (mv_ (onF_ k' f' e' g' n' fk fd) fv) q 0 0), (k', f', e', v', i', g', nI n'), (fk, fd, fa, (fun t => if t < q then onF_ k' f' e' g' n' fk fd t else fv t), nI q)) := by
  unfold f_X5_change
  dsimp only
  rw [key_T hk, bd_s]
  dsimp only
  rw [day_T hd, bd_s]
  dsimp only
  rw [hp, bd_s]
  dsimp only
  rw [if_neg hr, pointFacts_I hn hq, bd_s]
theorem full_I (hq : q < 60) : f_X0_isFull (fk, fd, fa, fv, nI q) = some 0 := by
  unfold f_X0_isFull
  dsimp only
  rw [if_pos (show nI q < 60 from (nI_ltI (a := q) (b := 60) (by omega) (by omega)).mpr hq)]
theorem add_I {a b c d : Int32} (hq : q < 60) : f_X0_add a b c d (fk, fd, fa, fv, nI q) = some (upd fk q a, upd fd q b, upd fa q c, upd fv q d, nI (q + 1)) := by
  unfold f_X0_add
  dsimp only
  rw [full_I hq, bd_s, if_pos rfl, gd_I hq (by omega), cl_I (by omega), nm_s, gd_I hq (by omega), nm_s, gd_I hq (by omega), nm_s, gd_I hq (by omega), nm_s, S_I]
theorem x5_addFact {a b amt : Int32} (hk : iK_ a) (hd : iD_ b) (hp : f_X4_cover a b (k, f, e, v, i, g, nI n) = some (r, (k', f', e', v', i', g', nI n'))) (hr : ¬ r = -1) (hn : n' ≤ 60) (hq : q < 60) :
    f_X5_addFact a b amt (h1, h2, h3) () (k, f, e, v, i, g, nI n) (fk, fd, fa, fv, nI q) (rk, rd, rv, rc) = some (Except.ok r, (h1, h2, fo_ (mv_ (onF_ k' f' e' g' n' fk fd) fv) q 0 0), (k', f', e', v', i', g', nI n'), (upd fk q a, upd fd q b, upd fa q amt, upd (fun t => if t < q then onF_ k' f' e' g' n' fk fd t else fv t) q r, nI (q + 1))) := by
  unfold f_X5_addFact
  dsimp only
  rw [key_T hk, bd_s]
  dsimp only
  rw [day_T hd, bd_s]
  dsimp only
  rw [full_I hq, bd_s, if_pos rfl, hp, bd_s]
  dsimp only
  rw [if_neg hr, pointFacts_I hn (by omega), bd_s]
  dsimp only
  rw [add_I hq, bd_s]
end
theorem gp_I {α : Type} {k n : Int32} {X : Option α} (h : 0 ≤ k.toInt) (hn : ¬ n = 0) : gp_ k n X = X := if_pos ⟨h, hn⟩
theorem gw_I {α : Type} {a n : Nat} {X : Option α} (h : a ≤ n) (hn : n < 2 ^ 31) : gw_ (nI a) n X = X := by
  unfold gw_
  rw [nI_toInt (by omega)]
  exact if_pos (by omega)
theorem sh_nn (x : Int32) : ∃ s : Nat, s < 2 ^ 31 ∧ sh_ x = nI s := by
  refine I_of ?_
  unfold sh_
  have h1 : ((1 : Int32).toUInt32 &&& Int32.toUInt32 31) = 1 := by decide
  rw [h1]
  have h2 : (x.toUInt32 >>> 1).toNat < 2 ^ 31 := by
    rw [UInt32.toNat_shiftRight]
    have := UInt32.toNat_lt x.toUInt32
    have h3 : (1 : UInt32).toNat % 32 = 1 := by decide
    rw [h3, Nat.shiftRight_eq_div_pow]
    omega
  show 0 ≤ (x.toUInt32 >>> 1).toBitVec.toInt
  have h4 : (x.toUInt32 >>> 1).toBitVec.toNat < 2 ^ 31 := h2
  rw [BitVec.toInt_eq_toNat_cond]
  rw [if_pos (by omega)]
  omega
theorem dw_r {xs : Nat → Int32} {L : Nat} {k : Int32} {N : Nat} (hN : 0 < N) (hN2 : N < 2 ^ 31) : ∃ t, t < N ∧ dw_ xs L k (nI N) = nI t := by
  obtain ⟨s, hs, e⟩ := sh_nn (cv_at xs L k)
  refine ⟨s % N, Nat.mod_lt _ hN, ?_⟩
  unfold dw_
  have h1 := Nat.div_add_mod s N
  have h2 : s / N * N ≤ s := Nat.div_mul_le_self s N
  rw [e, pk_div hs hN hN2, pk_mul, pk_sub h2]
  have h3 : s / N * N = N * (s / N) := Nat.mul_comm _ _
  rw [show s - s / N * N = s % N by omega]
section
variable {k f e v i g fk fd fa fv wv xv uv : Nat → Int32} {n q K L key day m mw : Nat} {zv : Nat → Nat → Int32} {h1 h2 h3 rc l2 l3 l7 l8 l9 l10 l11 l12 l13 l14 : Int32} {rk rd rv xs : Nat → Int32}
theorem c4_nn {a : Nat} (h : a < 2 ^ 31) : 0 ≤ (nI a).toInt := by rw [nI_toInt h]; omega
theorem B1_ok (hJ : JS_ K m k f e v i g n fk fd fa fv q wv xv zv) (hm : m ≤ 49) (hk : key < K) (hd : day < 1000) (hu : ∀ t, t < q → uv t = fv t) {k953 : Int32 → Int32 → Int32 → Int32 → Int32 → Int32 →  tD_ → tS_ → tV_ → tF_ → tR_ → tI_ → tI_ → tY_ → tI_ → tZ_ → Option Unit}
    (hk9 : ∀ (h3' : Int32) (k' f' e' v' i' g' fv' wv' : Nat → Int32) (n' : Nat) (zv' : Nat → Nat → Int32), JS_ K (m + 1) k' f' e' v' i' g' n' fk fd fa fv' q wv' xv zv' → JM_ q q h3' k' f' e' g' n' fk fd uv → k953 l2 l3 (nI n') l8 l9 l10 (h1, h2, h3') () (k', f', e', v', i', g', nI n') (fk, fd, fa, fv', nI q) (rk, rd, rv, rc) wv' xv () uv zv' = some ()) :
    f_law_B1 xs L K mw k953 l2 l3 (nI n) l8 l9 l10 (nI (10 + 4 * m)) (nI key) (nI day) l14 (h1, h2, h3) () (k, f, e, v, i, g, nI n) (fk, fd, fa, fv, nI q) (rk, rd, rv, rc) wv xv () uv zv = some () := by
  obtain ⟨⟨hK1, hK3, hnm, hqm, hm5⟩, hV, hF⟩ := hJ
  obtain ⟨n', k', f', e', v', i', g', yv', wv', r, hn', hL, hp, hr, hry, hV', hc⟩ := chg_ok (val := dw_ xs L (nI (10 + 4 * m + 3)) 3) (show n < 60 by omega) hK3 hV hk hd
  have hc2 : ∀ a b, a < K → b < 1000 → ¬ zv a b = -1 → ¬ rup zv key yv' a b = -1 := fun a b ha hb h => by
    by_cases e : a = key
    · subst e; rw [rup_s]; exact hc b hb h
    · rw [rup_n e]; exact h
  unfold f_law_B1
  dsimp only
  rw [A3_I, gp_I (c4_nn (by omega)) (by decide), nm_s, gd_I hk (by omega), cl_I (show key < 2 ^ 31 by omega), hL, bd_s]
  dsimp only
  rw [nm_s, x5_change (iK_I (by omega)) (iD_I hd) hp hr (by omega) (by omega), bd_s]
  dsimp only
  rw [gd_I hk (by omega), gd_I hd (by omega), cl_I (show day < 2 ^ 31 by omega), rup_s, if_pos hry]
  refine hk9 _ _ _ _ _ _ _ _ _ _ _ ⟨⟨hK1, hK3, by omega, by omega, by omega⟩, hV', JF_next (by omega) hV hF hV' hc2⟩ ⟨Nat.le_refl _, ?_⟩
  exact fo_congr _ _ _ (fun t a _ ht => by unfold mv_; rw [hu t (by omega)])
theorem B2_ok (hJ : JS_ K m k f e v i g n fk fd fa fv q wv xv zv) (hm : m ≤ 49) (hk : key < K) (hd : day < 1000) (hu : ∀ t, t < q → uv t = fv t) {k953 : Int32 → Int32 → Int32 → Int32 → Int32 → Int32 →  tD_ → tS_ → tV_ → tF_ → tR_ → tI_ → tI_ → tY_ → tI_ → tZ_ → Option Unit}
    (hk9 : ∀ (h3' : Int32) (k' f' e' v' i' g' fk' fd' fa' fv' wv' xv' : Nat → Int32) (n' : Nat) (zv' : Nat → Nat → Int32), JS_ K (m + 1) k' f' e' v' i' g' n' fk' fd' fa' fv' (q + 1) wv' xv' zv' → JM_ q (q + 1) h3' k' f' e' g' n' fk' fd' uv → k953 l2 l3 (nI n') (nI (q + 1)) l9 l10 (h1, h2, h3') () (k', f', e', v', i', g', nI n') (fk', fd', fa', fv', nI (q + 1)) (rk, rd, rv, rc) wv' xv' () uv zv' = some ()) :
    f_law_B2 xs L K mw k953 l2 l3 (nI n) (nI q) l9 l10 (nI (10 + 4 * m)) (nI key) (nI day) l14 (h1, h2, h3) () (k, f, e, v, i, g, nI n) (fk, fd, fa, fv, nI q) (rk, rd, rv, rc) wv xv () uv zv = some () := by
  obtain ⟨⟨hK1, hK3, hnm, hqm, hm5⟩, hV, hF⟩ := hJ
  obtain ⟨n', k', f', e', v', i', g', yv', wv', r, hn', hL, hp, hr, hry, hV', hc⟩ := fact_ok (show n < 60 by omega) hK3 hV hk hd
  have hc2 : ∀ a b, a < K → b < 1000 → ¬ zv a b = -1 → ¬ rup zv key yv' a b = -1 := fun a b ha hb h => by
    by_cases e : a = key
    · subst e; rw [rup_s]; exact hc b hb h
    · rw [rup_n e]; exact h
  have hF' := JF_next (by omega) hV hF hV' hc2
  unfold f_law_B2
  dsimp only
  rw [gd_I hk (by omega), cl_I (show key < 2 ^ 31 by omega), hL, bd_s]
  dsimp only
  rw [nm_s, A3_I, gp_I (c4_nn (by omega)) (by decide), nm_s, x5_addFact (iK_I (by omega)) (iD_I hd) hp hr (by omega) (by omega), bd_s]
  dsimp only
  rw [gd_I hk (by omega), gd_I hd (by omega), cl_I (show day < 2 ^ 31 by omega), rup_s, if_pos hry]
  simp only [m3_I, S_I, A2_I]
  rw [gd_I (by omega) (by omega), cl_I (by omega), nm_s, gd_I (by omega) (by omega), cl_I (by omega), nm_s, gd_I (by omega) (by omega), cl_I (by omega), nm_s]
  refine hk9 _ _ _ _ _ _ _ _ _ _ _ _ _ _ _ ⟨⟨hK1, hK3, by omega, by omega, by omega⟩, hV', ?_⟩ ⟨by omega, ?_⟩
  · have hon : ∀ t, t < q → onF_ k' f' e' g' n' (upd fk q (nI key)) (upd fd q (nI day)) t = onF_ k' f' e' g' n' fk fd t := fun t ht => by
      unfold onF_
      rw [up_n (by omega), up_n (by omega)]
    have hz' := hV'.2.2.1 key day hk hd
    rw [rup_s] at hz'
    refine ⟨⟨by omega, fun t ht => ?_⟩, fun t ht => ?_, fun t ht => ?_⟩
    · rcases lt_or_n ht with h | h
      · have h9 := hF'.1.2 t h
        have e9 : (if t < q then onF_ k' f' e' g' n' fk fd t else fv t) = onF_ k' f' e' g' n' fk fd t := if_pos h
        rw [up_n (by omega), up_n (by omega), up_n (by omega), hon t h]
        exact h9
      · subst h
        rw [up_s, up_s, up_s]
        refine ⟨iK_I (by omega), iD_I hd, ?_, ?_⟩
        · refine (dy_cv hV'.1.1).mp ?_
          rw [← hz', ← hry]; exact hr
        · rw [onF_dy (a := key) (b := day) up_s up_s, ← hz', ← hry]
    · rcases lt_or_n ht with h | h
      · rw [up_n (by omega)]; exact hF.2.1 t h
      · subst h; rw [up_s, nI_toInt (by omega)]; omega
    · rcases lt_or_n ht with h | h
      · rw [up_n (by omega), up_n (by omega), up_n (by omega), up_n (by omega), up_n (by omega), up_n (by omega), up_n (by omega), up_n (by omega), up_n (by omega), up_n (by omega), up_n (by omega), up_n (by omega)]
        exact hF.2.2 t h
      · subst h
        rw [up_n (by omega), up_n (by omega), up_s, up_s, up_n (by omega), up_s, up_s, up_s, up_s]
        exact ⟨rfl, rfl, rfl⟩
  · refine fo_congr _ _ _ (fun t a _ ht => ?_)
    unfold mv_ onF_
    rw [hu t (by omega), up_n (by omega), up_n (by omega)]
end
