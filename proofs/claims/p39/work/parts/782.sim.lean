/-! rows become changes: the class's loop beside the model's -/
section
variable {k f e v i g fk fd fa fv rk rd rv qk qd qv bk bf be bv bi bg G mkept mspare mwas mtext mtold : Nat → Int32} {mhasKept mwasMany manew mthrown mlength mspot mvalue merror mtolds : Int32} {n q r nb : Nat} {h1 h2 h3 rc : Int32}
theorem pointFacts_I (hn : n ≤ 60) (hq : q ≤ 60) : f_X5_pointFacts (h1, h2, h3) () (k, f, e, v, i, g, nI n) (fk, fd, fa, fv, nI q) (rk, rd, rv, rc) = some ((h1, h2, fo_ (mv_ (onF_ k f e g n fk fd) fv) q 0 0), (fk, fd, fa, (fun t => if t < q then onF_ k f e g n fk fd t else fv t), nI q)) := by
  unfold f_X5_pointFacts
  dsimp only
  rw [pointTo_I hn hq, bd_s]
theorem ne_m1 {x : Int32} (h : 0 ≤ x) : ¬ x = -1 := fun e => by rw [e] at h; exact absurd h (by decide)
end
