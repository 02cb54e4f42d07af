/-! what is asked, where it is there -/
section
variable {k f e v i g fk fd fa fv wv : Nat → Int32} {n q K key day : Nat} {zv : Nat → Nat → Int32} {h1 h2 h3 rc : Int32} {rk rd rv : Nat → Int32}
theorem x_versionAt {t a : Nat} (hk : key < 8) (hW : WV_ k f e i g n) (ht : t < n) (ha : a < n) (hp : pv_ k f g n (nI key) t = nI a) : f_X5_versionAt (nI key) (nI t) (h1, h2, h3) () (k, f, e, v, i, g, nI n) (fk, fd, fa, fv, nI q) (rk, rd, rv, rc) = some (Except.ok (nI a)) := by
  have hn := hW.1
  unfold f_X5_versionAt
  dsimp only
  rw [key_T (iK_I hk), bd_s]
  dsimp only
  rw [atPlace_I hW ht, bd_s, hp, found_I (by omega), bd_s]
theorem x_version0 {j : Nat} (hn : n ≤ 60) (hj : j < n) (hg : g j = 0) : f_X5_version (nI j) 0 (h1, h2, h3) () (k, f, e, v, i, g, nI n) (fk, fd, fa, fv, nI q) (rk, rd, rv, rc) = some (Except.ok (k j)) := by
  unfold f_X5_version
  dsimp only
  rw [chkV hn hj hg, bd_s]
  dsimp only
  rw [if_pos rfl, gd_I (by omega) (by omega), cl_I (by omega)]
theorem x_version1 {j : Nat} (hn : n ≤ 60) (hj : j < n) (hg : g j = 0) : f_X5_version (nI j) 1 (h1, h2, h3) () (k, f, e, v, i, g, nI n) (fk, fd, fa, fv, nI q) (rk, rd, rv, rc) = some (Except.ok (f j)) := by
  unfold f_X5_version
  dsimp only
  rw [chkV hn hj hg, bd_s]
  dsimp only
  rw [if_neg (by decide), if_pos rfl, gd_I (by omega) (by omega), cl_I (by omega)]
theorem x_version2 {j : Nat} (hn : n ≤ 60) (hj : j < n) (hg : g j = 0) : f_X5_version (nI j) 2 (h1, h2, h3) () (k, f, e, v, i, g, nI n) (fk, fd, fa, fv, nI q) (rk, rd, rv, rc) = some (Except.ok (e j)) := by
  unfold f_X5_version
  dsimp only
  rw [chkV hn hj hg, bd_s]
  dsimp only
  rw [if_neg (by decide), if_neg (by decide), if_pos rfl, gd_I (by omega) (by omega), cl_I (by omega)]
theorem x_version3 {j : Nat} (hn : n ≤ 60) (hj : j < n) (hg : g j = 0) : f_X5_version (nI j) 3 (h1, h2, h3) () (k, f, e, v, i, g, nI n) (fk, fd, fa, fv, nI q) (rk, rd, rv, rc) = some (Except.ok (v j)) := by
  unfold f_X5_version
  dsimp only
  rw [chkV hn hj hg, bd_s]
  dsimp only
  rw [if_neg (by decide), if_neg (by decide), if_neg (by decide), if_pos rfl, gd_I (by omega) (by omega), cl_I (by omega)]
theorem x_version4 {j : Nat} (hn : n ≤ 60) (hj : j < n) (hg : g j = 0) (hq : q ≤ 60) : f_X5_version (nI j) 4 (h1, h2, h3) () (k, f, e, v, i, g, nI n) (fk, fd, fa, fv, nI q) (rk, rd, rv, rc) = some (Except.ok (nI (cf_ (fun t => decide (fv t = nI j)) q 0))) := by
  unfold f_X5_version
  dsimp only
  rw [chkV hn hj hg, bd_s]
  dsimp only
  rw [if_neg (by decide), if_neg (by decide), if_neg (by decide), if_neg (by decide), if_pos rfl, F_countOf hq, bd_s]
theorem x_version5 {j : Nat} (hn : n ≤ 60) (hj : j < n) (hg : g j = 0) : f_X5_version (nI j) 5 (h1, h2, h3) () (k, f, e, v, i, g, nI n) (fk, fd, fa, fv, nI q) (rk, rd, rv, rc) = some (Except.ok (e j - f j)) := by
  unfold f_X5_version
  dsimp only
  rw [chkV hn hj hg, bd_s]
  dsimp only
  rw [if_neg (by decide), if_neg (by decide), if_neg (by decide), if_neg (by decide), if_neg (by decide), if_pos rfl, days_I hn hj hg, bd_s]
theorem x_isInferred {j : Nat} (hW : WV_ k f e i g n) (hj : j < n) (hg : g j = 0) : f_X5_isInferred (nI j) (h1, h2, h3) () (k, f, e, v, i, g, nI n) (fk, fd, fa, fv, nI q) (rk, rd, rv, rc) = some (Except.ok (i j)) := by
  have hn := hW.1
  unfold f_X5_isInferred
  dsimp only
  rw [chkV hn hj hg, bd_s]
  dsimp only
  rw [gd_I (by omega) (by omega), cl_I (by omega)]
  rcases (hW.2.1 j hj).2 with h | h
  · rw [h, gb_0]
  · rw [h, gb_1]
theorem x_validOn {j : Nat} (hk : key < 8) (hd : day < 1000) (hW : WV_ k f e i g n) (hj : j < n) (hx : dy_ k f e g n key day = nI j) : f_X5_validOn (nI key) (nI day) (h1, h2, h3) () (k, f, e, v, i, g, nI n) (fk, fd, fa, fv, nI q) (rk, rd, rv, rc) = some (Except.ok (nI j)) := by
  have hn := hW.1
  have hx2 : fs_ (pOn_ k f e g (nI key) (nI day)) n 0 = nI j := hx
  unfold f_X5_validOn
  dsimp only
  rw [key_T (iK_I hk), bd_s]
  dsimp only
  rw [day_T (iD_I hd), bd_s]
  dsimp only
  rw [onDay_I hn, bd_s, hx2, found_I (by omega), bd_s]
theorem x_gapDay {j : Nat} {gp : Int32} (hk : key < 8) (hW : WV_ k f e i g n) (hj : j < n) (hx : ga_ k f e g n (nI key) gp n 0 0 = nI j) : f_X5_gapDay (nI key) gp 0 (h1, h2, h3) () (k, f, e, v, i, g, nI n) (fk, fd, fa, fv, nI q) (rk, rd, rv, rc) = some (Except.ok (e j)) ∧ f_X5_gapDay (nI key) gp 1 (h1, h2, h3) () (k, f, e, v, i, g, nI n) (fk, fd, fa, fv, nI q) (rk, rd, rv, rc) = some (Except.ok (nf_ k f g n (nI key) (f j) - 1)) := by
  have hn := hW.1
  constructor
  · unfold f_X5_gapDay
    dsimp only
    rw [key_T (iK_I hk), bd_s]
    dsimp only
    rw [ahead_I hW, bd_s, hx, found_I (by omega), bd_s]
    dsimp only
    rw [if_pos rfl, gd_I (by omega) (by omega), cl_I (by omega)]
  · unfold f_X5_gapDay
    dsimp only
    rw [key_T (iK_I hk), bd_s]
    dsimp only
    rw [ahead_I hW, bd_s, hx, found_I (by omega), bd_s]
    dsimp only
    rw [if_neg (by decide), gd_I (by omega) (by omega), cl_I (by omega), nextFirst_I hn, bd_s]
theorem x_versionsOf (hk : key < 8) (hn : n ≤ 60) : f_X5_versionsOf (nI key) (h1, h2, h3) () (k, f, e, v, i, g, nI n) (fk, fd, fa, fv, nI q) (rk, rd, rv, rc) = some (Except.ok (nI (mn_ k g n (nI key)))) := by
  unfold f_X5_versionsOf
  dsimp only
  rw [key_T (iK_I hk), bd_s]
  dsimp only
  rw [countOf_I hn, mn_fo hn, bd_s]
/-- the gaps of a key behind versions that end before a day -/
def op_ (k f e g : Nat → Int32) (n : Nat) (key : Int32) (j : Nat) : Bool := decide ((g j = 0 ∧ k j = key) ∧ e j < nf_ k f g n (k j) (f j))
theorem x_gaps (hk : key < 8) (hW : WV_ k f e i g n) : f_X5_gaps (nI key) (h1, h2, h3) () (k, f, e, v, i, g, nI n) (fk, fd, fa, fv, nI q) (rk, rd, rv, rc) = some (Except.ok (nI (cf_ (op_ k f e g n (nI key)) n 0))) := by
  unfold f_X5_gaps
  dsimp only
  rw [key_T (iK_I hk), bd_s]
  dsimp only
  rw [countGaps_I hW, bd_s]
  have h := cf_fo (p := op_ k f e g n (nI key)) (g := gc_ k f e g n (nI key)) (fun j a => by
    unfold gc_ op_
    by_cases h : (g j = 0 ∧ k j = nI key) ∧ e j < nf_ k f g n (k j) (f j)
    · rw [if_pos h, if_pos (dec_t h)]
    · rw [if_neg h, if_neg (by rw [dec_f h]; decide)]) n 0 0
  rw [show fo_ (gc_ k f e g n (nI key)) n 0 0 = nI (0 + cf_ (op_ k f e g n (nI key)) n 0) from h, Nat.zero_add]
theorem x_coverage (hk : key < 8) (hW : WV_ k f e i g n) {a : Nat} (ha : a < n) (hA : g a = 0 ∧ k a = nI key) (h0 : rk_ k f g n (nI key) (f a) = 0) {x : Int32} (hs : fo_ (sd_ k f e g (nI key)) n 0 0 = x) : f_X5_coverage (nI key) (h1, h2, h3) () (k, f, e, v, i, g, nI n) (fk, fd, fa, fv, nI q) (rk, rd, rv, rc) = some (Except.ok (FP.ddiv (FP.i2d x) (FP.i2d (1000 - f a)))) := by
  have hn := hW.1
  have hm := rk_many (f := f) ha hA
  obtain ⟨b, hb, hB, hpb, hnb⟩ := nf_first hW (show 0 < mn_ k g n (nI key) by omega)
  have hab : a = b := by
    have := pv_some hW ha hA
    rw [h0, hpb] at this
    exact ((nI_eq (by omega) (by omega)).mp this).symm
  subst hab
  have hmn : mn_ k g n (nI key) ≤ n := mn_le
  unfold f_X5_coverage
  dsimp only
  rw [key_T (iK_I hk), bd_s]
  dsimp only
  rw [countOf_I hn, mn_fo hn, bd_s, if_neg (nI_ne0 (by omega) (by omega)), sumDays_I hn, bd_s, hs, nextFirst_I hn, bd_s, hnb, gN_ok (div_ok hW ha hA.1)]
theorem dcmp_1 {x : UInt64} (h : vf_n64 x) : Op.cmpValue (FP.dcmp x x) .l = 0 := by
  have h2 : x &&& 0x7fffffffffffffff ≤ 0x7ff0000000000000 := h
  rw [UInt64.le_iff_toNat_le, UInt64.toNat_and, show (0x7fffffffffffffff : UInt64).toNat = 2 ^ 63 - 1 from rfl, Nat.and_two_pow_sub_one_eq_mod, show (0x7ff0000000000000 : UInt64).toNat = 2047 * 2 ^ 52 from rfl] at h2
  have h3 : FP.Core.decode FP.Core.b64 x.toNat ≠ .nan := fun q => by
    have := dec_nan q
    omega
  rw [show FP.dcmp x x = some .eq from FP.Core.dcmp_self h3]
  rfl
theorem cov_same {x y : Int32} (h : 1 ≤ y.toInt ∧ y.toInt ≤ 1000) : Op.cmpValue (FP.dcmp (FP.ddiv (FP.i2d x) (FP.i2d y)) (FP.ddiv (FP.i2d x) (FP.i2d y))) .l = 0 :=
  dcmp_1 (gN_T (gN_ok (X := some ()) h)).1
end
