/-! coverage -/
def ok_ (n : Nat) : Prop := n < 2 ^ 64 ∧ n % 2 ^ 63 ≤ 2047 * 2 ^ 52
theorem asm_mod {s : Bool} {E T : Nat} (hE : E ≤ 2047) (hT : T < 2 ^ 52) : FP.Core.assemble FP.Core.b64 s E T < 2 ^ 64 ∧ FP.Core.assemble FP.Core.b64 s E T % 2 ^ 63 = E * 2 ^ 52 + T := by
  unfold FP.Core.assemble
  rw [show FP.Core.b64.exps = 2048 by decide, show FP.Core.b64.tails = 2 ^ 52 by decide]
  cases s
  · rw [Bool.toNat_false]; omega
  · rw [Bool.toNat_true]; omega
theorem enc_inf {s : Bool} : ok_ (FP.Core.encode FP.Core.b64 (.inf s)) := by
  show ok_ (FP.Core.assemble FP.Core.b64 s (FP.Core.b64.exps - 1) 0)
  rw [show FP.Core.b64.exps - 1 = 2047 by decide]
  have h := asm_mod (s := s) (E := 2047) (T := 0) (by omega) (by omega)
  exact ⟨h.1, by rw [h.2]; omega⟩
theorem enc_fin {s : Bool} {c : Nat} {q : Int} (hc : c < 2 ^ 53) (hq : q ≤ 971) : ok_ (FP.Core.encode FP.Core.b64 (.fin s c q)) := by
  show ok_ (if c < FP.Core.b64.tails then FP.Core.assemble FP.Core.b64 s 0 c else FP.Core.assemble FP.Core.b64 s ((q - FP.Core.b64.qmin).toNat + 1) (c - FP.Core.b64.tails))
  rw [show FP.Core.b64.tails = 2 ^ 52 by decide, show FP.Core.b64.qmin = -1074 by decide]
  by_cases h : c < 2 ^ 52
  · rw [if_pos h]
    have h1 := asm_mod (s := s) (E := 0) (T := c) (by omega) h
    exact ⟨h1.1, by rw [h1.2]; omega⟩
  · rw [if_neg h]
    have h1 := asm_mod (s := s) (E := (q - -1074).toNat + 1) (T := c - 2 ^ 52) (by omega) (by omega)
    exact ⟨h1.1, by rw [h1.2]; omega⟩
theorem bound_ok {s : Bool} {c : Nat} {q : Int} (hc : c < 2 ^ 53) : ok_ (FP.Core.encode FP.Core.b64 (FP.Core.bound FP.Core.b64 s c q)) := by
  unfold FP.Core.bound
  rw [show FP.Core.b64.qmax = 971 by decide]
  by_cases h : q ≤ 971
  · rw [if_pos h]; exact enc_fin hc h
  · rw [if_neg h]; exact enc_inf
theorem settle_ok {s : Bool} {c : Nat} {q : Int} : ok_ (FP.Core.encode FP.Core.b64 (FP.Core.settle FP.Core.b64 s c q)) := by
  unfold FP.Core.settle
  rw [show 2 ^ FP.Core.b64.p = 2 ^ 53 from rfl, show FP.Core.b64.tails = 2 ^ 52 by decide]
  by_cases h : c < 2 ^ 53
  · rw [if_pos h]; exact bound_ok h
  · rw [if_neg h]; exact bound_ok (by omega)
theorem rr_ok {s : Bool} {a b : Nat} {e : Int} : ok_ (FP.Core.encode FP.Core.b64 (FP.Core.roundRatio FP.Core.b64 s a b e)) := by
  unfold FP.Core.roundRatio
  by_cases h : a = 0
  · rw [if_pos h]; exact enc_fin (by omega) (by decide)
  · rw [if_neg h]
    unfold FP.Core.roundAt
    exact settle_ok
theorem dec_nan {n : Nat} (h : FP.Core.decode FP.Core.b64 n = .nan) : 2047 * 2 ^ 52 < n % 2 ^ 63 := by
  unfold FP.Core.decode at h
  by_cases h1 : FP.Core.fieldE FP.Core.b64 n = FP.Core.b64.exps - 1
  · rw [if_pos h1] at h
    by_cases h2 : FP.Core.fieldT FP.Core.b64 n = 0
    · rw [if_pos h2] at h; exact FP.Core.Datum.noConfusion h
    · unfold FP.Core.fieldE at h1
      unfold FP.Core.fieldT at h2
      rw [show FP.Core.b64.exps = 2048 by decide, show FP.Core.b64.tails = 2 ^ 52 by decide] at h1
      rw [show FP.Core.b64.tails = 2 ^ 52 by decide] at h2
      omega
  · rw [if_neg h1] at h
    by_cases h2 : FP.Core.fieldE FP.Core.b64 n = 0
    · rw [if_pos h2] at h; exact FP.Core.Datum.noConfusion h
    · rw [if_neg h2] at h; exact FP.Core.Datum.noConfusion h
theorem i2d_nn (x : Int32) : ¬ FP.Core.decode FP.Core.b64 (FP.Core.i2d x).toNat = .nan := by
  intro h
  have h1 : ok_ (FP.Core.fromInt FP.Core.b64 x.toInt) := rr_ok
  have h2 := dec_nan h
  rw [show (FP.Core.i2d x).toNat = FP.Core.fromInt FP.Core.b64 x.toInt % 2 ^ 64 from UInt64.toNat_ofNat', Nat.mod_eq_of_lt h1.1] at h2
  exact absurd h1.2 (Nat.not_le.mpr h2)
def nz_ (n : Nat) : Bool := match FP.Core.decode FP.Core.b64 n with
  | .fin _ d _ => d != 0
  | _ => false
theorem nz_spec {n : Nat} (h : nz_ n = true) : ∃ (t : Bool) (d : Nat) (r : Int), FP.Core.decode FP.Core.b64 n = .fin t d r ∧ d ≠ 0 := by
  unfold nz_ at h
  cases hd : FP.Core.decode FP.Core.b64 n with
  | nan => rw [hd] at h; cases h
  | inf s => rw [hd] at h; cases h
  | fin t d r =>
    rw [hd] at h
    exact ⟨t, d, r, rfl, fun e => by subst e; have h : ((0 : Nat) != 0) = true := h; exact absurd h (by decide)⟩
set_option maxRecDepth 100000 in
theorem nz_all : (List.range 1000).all (fun c => nz_ (FP.Core.i2d (nI (c + 1))).toNat) = true := by decide +kernel
theorem gN_ok {α : Type} {x y : Int32} {X : Option α} (h : 1 ≤ y.toInt ∧ y.toInt ≤ 1000) : gN_ (FP.i2d x) (FP.i2d y) X = X := by
  obtain ⟨t, ht, rfl⟩ := I_of (x := y) (by omega)
  rw [nI_toInt ht] at h
  obtain ⟨c, rfl⟩ : ∃ c : Nat, t = c + 1 := ⟨t - 1, by omega⟩
  obtain ⟨s, d, r, hd, hd0⟩ := nz_spec (List.all_eq_true.mp nz_all c (List.mem_range.mpr (by omega)))
  have hq : ok_ (FP.Core.div FP.Core.b64 (FP.Core.i2d x).toNat (FP.Core.i2d (nI (c + 1))).toNat) := by
    unfold FP.Core.div
    rw [hd]
    cases hx : FP.Core.decode FP.Core.b64 (FP.Core.i2d x).toNat with
    | nan => exact absurd hx (i2d_nn x)
    | inf u => exact enc_inf
    | fin u a b =>
      show ok_ (FP.Core.encode FP.Core.b64 (if d = 0 then (if a = 0 then .nan else .inf (u != s)) else FP.Core.roundRatio FP.Core.b64 (u != s) a d (b - r)))
      rw [if_neg hd0]
      exact rr_ok
  unfold gN_
  refine if_pos ?_
  rw [UInt64.le_iff_toNat_le, UInt64.toNat_and, show (0x7fffffffffffffff : UInt64).toNat = 2 ^ 63 - 1 from rfl, Nat.and_two_pow_sub_one_eq_mod, show (0x7ff0000000000000 : UInt64).toNat = 2047 * 2 ^ 52 from rfl, show (FP.ddiv (FP.i2d x) (FP.i2d (nI (c + 1)))).toNat = FP.Core.div FP.Core.b64 (FP.Core.i2d x).toNat (FP.Core.i2d (nI (c + 1))).toNat % 2 ^ 64 from UInt64.toNat_ofNat', Nat.mod_eq_of_lt hq.1]
  exact hq.2
section
variable {k f e v i g fk fd fa fv rk rd rv G mkept mspare mwas mtext mtold : Nat → Int32} {mhasKept mwasMany manew mthrown mlength mspot mvalue merror mtolds : Int32} {n q r : Nat} {h1 h2 h3 a1 a2 a3 rc key : Int32} {ov : Nat → Int64} {pv : Nat → UInt64}
theorem nf_first (hW : WV_ k f e i g n) (h : 0 < mn_ k g n key) : ∃ a, a < n ∧ (g a = 0 ∧ k a = key) ∧ pv_ k f g n key 0 = nI a ∧ nf_ k f g n key (-1) = f a := by
  have hn := hW.1
  obtain ⟨a, ha, hA, -, hp⟩ := pv_ex hW 0 h
  refine ⟨a, ha, hA, hp, ?_⟩
  unfold nf_
  rw [nx_pv0 hW, hp, if_neg (by rw [m1_ne (by omega)]; exact fun h => h), cl_I (by omega)]
theorem div_ok (hW : WV_ k f e i g n) {a : Nat} (ha : a < n) (hg : g a = 0) : 1 ≤ (1000 - f a).toInt ∧ (1000 - f a).toInt ≤ 1000 := by
  have h1 := hW.2.2.1 a ha hg
  rw [sub_small (by rw [z1000_]; omega) (by rw [z1000_]; omega) (by omega) (by omega), z1000_]
  omega
end
