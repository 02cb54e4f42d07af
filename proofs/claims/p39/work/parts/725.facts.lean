/-! facts point anew -/
def onF_ (k f e g : Nat → Int32) (n : Nat) (fk fd : Nat → Int32) (t : Nat) : Int32 := fs_ (pOn_ k f e g (fk t) (fd t)) n 0
def mv_ (on w : Nat → Int32) (t : Nat) (a : Int32) : Int32 := if on t = w t then a else a + 1
section
variable {k f e v i g fk fd fa fv : Nat → Int32} {n q : Nat}
theorem pointTo_L (hn : n ≤ 60) (hq : q ≤ 60) : ∀ c m j a (w : Nat → Int32), j + c = q → c < m → f_X0_pointTo_L4 m (nI j) a (fk, fd, fa, w, nI q) (k, f, e, v, i, g, nI n) = some (fo_ (mv_ (onF_ k f e g n fk fd) w) c j a, (fk, fd, fa, (fun t => if j ≤ t ∧ t < q then onF_ k f e g n fk fd t else w t), nI q)) := by
  intro c
  induction c with
  | zero =>
    intro m j a w h1 h2
    obtain ⟨m, rfl⟩ := ex_S h2
    rw [e_X0_pointTo_L4]
    unfold f_X0_pointTo_S4
    dsimp only
    rw [if_pos (by rw [nI_leI (by omega) (by omega)]; omega)]
    have : (fun t => if j ≤ t ∧ t < q then onF_ k f e g n fk fd t else w t) = w := by
      funext t
      rw [if_neg (by omega)]
    rw [this]
    rfl
  | succ c ih =>
    intro m j a w h1 h2
    obtain ⟨m, rfl⟩ := ex_S h2
    rw [e_X0_pointTo_L4]
    unfold f_X0_pointTo_S4
    dsimp only
    rw [if_neg (by rw [nI_leI (by omega) (by omega)]; omega), gd_I (by omega) (by omega), gd_I (by omega) (by omega), cl_I (by omega), onDay_I hn, bd_s, gd_I (by omega) (by omega), S_I]
    by_cases hc : onF_ k f e g n fk fd j = w j
    · rw [if_pos (show fs_ (pOn_ k f e g (fk j) (fd j)) n 0 = w j from hc), ih m (j + 1) a w (by omega) (by omega)]
      have e1 : (fun t => if j + 1 ≤ t ∧ t < q then onF_ k f e g n fk fd t else w t) = (fun t => if j ≤ t ∧ t < q then onF_ k f e g n fk fd t else w t) := by
        funext t
        by_cases h : t = j
        · subst h
          rw [if_neg (by omega), if_pos (by omega), hc]
        · by_cases h3 : j ≤ t ∧ t < q
          · rw [if_pos (by omega), if_pos h3]
          · rw [if_neg (by omega), if_neg h3]
      rw [e1]
      show _ = some (fo_ (mv_ (onF_ k f e g n fk fd) w) c (j + 1) (mv_ (onF_ k f e g n fk fd) w j a), _)
      rw [show mv_ (onF_ k f e g n fk fd) w j a = a from if_pos hc]
    · rw [if_neg (show ¬ fs_ (pOn_ k f e g (fk j) (fd j)) n 0 = w j from hc), gd_I (by omega) (by omega), nm_s, ih m (j + 1) (a + 1) _ (by omega) (by omega)]
      have e1 : (fun t => if j + 1 ≤ t ∧ t < q then onF_ k f e g n fk fd t else upd w j (fs_ (pOn_ k f e g (fk j) (fd j)) n 0) t) = (fun t => if j ≤ t ∧ t < q then onF_ k f e g n fk fd t else w t) := by
        funext t
        by_cases h : t = j
        · subst h
          rw [if_neg (by omega), if_pos (by omega), up_s]
          rfl
        · rw [up_n h]
          by_cases h3 : j ≤ t ∧ t < q
          · rw [if_pos (by omega), if_pos h3]
          · rw [if_neg (by omega), if_neg h3]
      rw [e1]
      show _ = some (fo_ (mv_ (onF_ k f e g n fk fd) w) c (j + 1) (mv_ (onF_ k f e g n fk fd) w j a), _)
      rw [show mv_ (onF_ k f e g n fk fd) w j a = a + 1 from if_neg hc]
      rw [fo_congr (g := mv_ (onF_ k f e g n fk fd) (upd w j (fs_ (pOn_ k f e g (fk j) (fd j)) n 0))) (h := mv_ (onF_ k f e g n fk fd) w) c (j + 1) (a + 1) (fun t b h3 h4 => by unfold mv_; rw [up_n (by omega)])]
theorem pointTo_I (hn : n ≤ 60) (hq : q ≤ 60) : f_X0_pointTo (fk, fd, fa, fv, nI q) (k, f, e, v, i, g, nI n) = some (fo_ (mv_ (onF_ k f e g n fk fd) fv) q 0 0, (fk, fd, fa, (fun t => if t < q then onF_ k f e g n fk fd t else fv t), nI q)) := by
  unfold f_X0_pointTo
  dsimp only
  rw [show (0 : Int32) = nI 0 from rfl, pointTo_L hn hq q fu_ 0 _ fv (by omega) (by unfold fu_; omega)]
  have e1 : (fun t => if 0 ≤ t ∧ t < q then onF_ k f e g n fk fd t else fv t) = (fun t => if t < q then onF_ k f e g n fk fd t else fv t) := by
    funext t
    simp
  rw [e1]
end
section
variable {k f e v i g fk fd fa G mkept mspare mwas mtext mtold : Nat → Int32} {mhasKept mwasMany manew mthrown mlength mspot mvalue merror mtolds : Int32} {n q : Nat}
end
