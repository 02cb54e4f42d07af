/-! worlds by blocks -/
def fc_ (f : Nat × va_E → Bool) : va_W → Nat
  | [] => 0
  | p :: W => (if f p = true then 1 else 0) + fc_ f W
theorem fc_c (f : Nat × va_E → Bool) (p : Nat × va_E) (W : va_W) : fc_ f (p :: W) = (if f p = true then 1 else 0) + fc_ f W := rfl
theorem fc_app (f : Nat × va_E → Bool) (y : va_W) : ∀ x : va_W, fc_ f (x ++ y) = fc_ f x + fc_ f y := by
  intro x
  induction x with
  | nil => exact (Nat.zero_add _).symm
  | cons p x ih => rw [List.cons_append, fc_c, fc_c, ih, Nat.add_assoc]
theorem fc_mem {f : Nat × va_E → Bool} : ∀ W : va_W, 0 < fc_ f W → ∃ (k : Nat) (p : Nat × va_E), W[k]? = some p ∧ f p = true := by
  intro W
  induction W with
  | nil => intro h; exact absurd h (Nat.lt_irrefl 0)
  | cons p W ih =>
    intro h
    by_cases hp : f p = true
    · exact ⟨0, p, rfl, hp⟩
    · rw [fc_c, if_neg hp, Nat.zero_add] at h
      obtain ⟨k, q, hk, hq⟩ := ih h
      exact ⟨k + 1, q, hk, hq⟩
theorem fc_ge {f : Nat × va_E → Bool} : ∀ (W : va_W) (k : Nat) (p : Nat × va_E), W[k]? = some p → f p = true → 0 < fc_ f W := by
  intro W
  induction W with
  | nil => intro k p h; simp at h
  | cons a W ih =>
    intro k p h hp
    rw [fc_c]
    cases k with
    | zero =>
      have h : a = p := Option.some.inj h
      rw [h, if_pos hp]; omega
    | succ k =>
      have := ih k p h hp
      omega
theorem fc_two {f : Nat × va_E → Bool} : ∀ (W : va_W) (i j : Nat) (p q : Nat × va_E), W[i]? = some p → W[j]? = some q → i < j → f p = true → f q = true → 2 ≤ fc_ f W := by
  intro W
  induction W with
  | nil => intro i j p q h; simp at h
  | cons a W ih =>
    intro i j p q hi hj hij hp hq
    obtain ⟨j, rfl⟩ : ∃ j', j = j' + 1 := ⟨j - 1, by omega⟩
    rw [fc_c]
    cases i with
    | zero =>
      have h : a = p := Option.some.inj hi
      have := fc_ge W j q hj hq
      rw [h, if_pos hp]; omega
    | succ i =>
      have := ih i j p q hi hj (by omega) hp hq
      omega
theorem fc_le1 {f : Nat × va_E → Bool} : ∀ W : va_W, (∀ (i j : Nat) (p q : Nat × va_E), W[i]? = some p → W[j]? = some q → f p = true → f q = true → i = j) → fc_ f W ≤ 1 := by
  intro W
  induction W with
  | nil => intro _; exact Nat.zero_le _
  | cons a W ih =>
    intro h
    rw [fc_c]
    by_cases ha : f a = true
    · rw [if_pos ha]
      refine Nat.le_of_not_lt fun h1 => ?_
      obtain ⟨k, p, hk, hp⟩ := fc_mem W (show 0 < fc_ f W by omega)
      have := h 0 (k + 1) a p rfl hk ha hp
      omega
    · rw [if_neg ha, Nat.zero_add]
      exact ih (fun i j p q hi hj hp hq => by have := h (i + 1) (j + 1) p q hi hj hp hq; omega)
def Sw_ (W W' : va_W) : Prop := ∀ f, fc_ f W = fc_ f W'
theorem sw_i {W W' : va_W} (h : Sw_ W W') {k : Nat} {q : Nat × va_E} (hk : W'[k]? = some q) : ∃ i : Nat, W[i]? = some q := by
  have h1 : 0 < fc_ (fun p => @decide (p = q) (Classical.propDecidable _)) W' := fc_ge W' k q hk (@decide_eq_true _ (Classical.propDecidable _) rfl)
  rw [← h] at h1
  obtain ⟨i, p, hi, hp⟩ := fc_mem W h1
  have hp := @of_decide_eq_true _ (Classical.propDecidable _) hp
  exact ⟨i, by rw [hi, hp]⟩
theorem sw_P {D : va_G} {cl : List vw_C} {W W' : va_W} {H : Heap} (h : Sw_ W W') (hP : va_P D cl W H) : va_P D cl W' H := by
  intro k q hk
  obtain ⟨i, hi⟩ := sw_i h hk
  exact hP i q hi
theorem sw_D {A : Nat → Prop} {W W' : va_W} (h : Sw_ W W') (hD : va_D A W) : va_D A W' := by
  refine ⟨fun i j p q hi hj hpq => ?_, fun k q hk => ?_⟩
  · refine Classical.byContradiction fun hne => ?_
    have h1 : fc_ (fun x => decide (x.1 = p.1)) W ≤ 1 := fc_le1 W (fun a b x y ha hb hx hy => hD.1 a b x y ha hb ((of_decide_eq_true hx).trans (of_decide_eq_true hy).symm))
    rw [h] at h1
    have h2 : 2 ≤ fc_ (fun x => decide (x.1 = p.1)) W' := by
      rcases Nat.lt_or_gt_of_ne hne with h3 | h3
      · exact fc_two W' i j p q hi hj h3 (decide_eq_true rfl) (decide_eq_true hpq.symm)
      · exact fc_two W' j i q p hj hi h3 (decide_eq_true hpq.symm) (decide_eq_true rfl)
    omega
  · obtain ⟨i, hi⟩ := sw_i h hk
    exact hD.2 i q hi
theorem at_rt {x y : va_W} {k : Nat} {q : Nat × va_E} (hk : y[k]? = some q) : (x ++ y)[x.length + k]? = some q := by
  rw [List.getElem?_append_right (by omega), Nat.add_sub_cancel_left]
  exact hk
theorem at_lt {x y : va_W} {k : Nat} {q : Nat × va_E} (hk : x[k]? = some q) : (x ++ y)[k]? = some q := by
  rw [List.getElem?_append_left (List.getElem?_eq_some_iff.mp hk).1]
  exact hk
theorem P_rt {D : va_G} {cl : List vw_C} {x y : va_W} {H : Heap} (h : va_P D cl (x ++ y) H) : va_P D cl y H := fun _ q hk => h _ q (at_rt hk)
theorem P_lt {D : va_G} {cl : List vw_C} {x y : va_W} {H : Heap} (h : va_P D cl (x ++ y) H) : va_P D cl x H := fun _ q hk => h _ q (at_lt hk)
theorem D_rt {A : Nat → Prop} {x y : va_W} (h : va_D A (x ++ y)) : va_D A y := ⟨fun i j p q hi hj hpq => by have := h.1 _ _ p q (at_rt hi) (at_rt hj) hpq; omega, fun _ q hk => h.2 _ q (at_rt hk)⟩
theorem D_lt {A : Nat → Prop} {x y : va_W} (h : va_D A (x ++ y)) : va_D A x := ⟨fun _ _ p q hi hj hpq => h.1 _ _ p q (at_lt hi) (at_lt hj) hpq, fun _ q hk => h.2 _ q (at_lt hk)⟩
theorem bl_P {D : va_G} {cl : List vw_C} {W Wr Wc : va_W} {H : Heap} (h : Sw_ W (Wr ++ Wc)) (hP : va_P D cl W H) : va_P D cl Wc H := P_rt (sw_P h hP)
theorem bl_D {A : Nat → Prop} {W Wr Wc : va_W} (h : Sw_ W (Wr ++ Wc)) (hD : va_D A W) : va_D A Wc := D_rt (sw_D h hD)
theorem bl_F {A : Nat → Prop} {W Wr Wc : va_W} {H0 H : Heap} {locs : List Loc} (h : Sw_ W (Wr ++ Wc)) (hD : va_D A W) (hS : va_S A H0 H locs) (hA : ∀ q, H0.size ≤ q → A q) : ∀ q, va_A Wc H.size q → A q := by
  intro q hq
  rcases hq with ⟨k, e, hk⟩ | hq
  · exact (bl_D h hD).2 k (q, e) hk
  · exact hA q (Nat.le_trans hS.1 hq)
theorem bl_J {A : Nat → Prop} {D : va_G} {tys : List (ClassId × FieldType)} {W Wr Wc Wc' W2 : va_W} {H H1 : Heap} {t : State} (h : Sw_ W (Wr ++ Wc)) (h2 : Sw_ W2 (Wr ++ Wc')) (hP : va_P D vwCl W H) (hD : va_D A W)
    (hk : ∀ q : Nat, q < H.size → ¬ va_A Wc H.size q → H1[q]? = H[q]?) (hF : ∀ q, va_A Wc H.size q → A q) (hB : Bw_ D tys (va_A Wc H.size) Wc' t) (ht : t.heap = H1) : va_P D vwCl W2 H1 ∧ va_D A W2 := by
  obtain ⟨hP1, hK1, hD1⟩ := hB
  rw [ht] at hP1
  have hPr := P_lt (sw_P h hP)
  have hD9 := sw_D h hD
  have hDr := D_lt hD9
  have out : ∀ (k : Nat) (q : Nat × va_E), Wr[k]? = some q → ¬ va_A Wc H.size q.1 := by
    intro k q hk' hq
    rcases hq with ⟨j, e, hj⟩ | hq
    · have h5 := hD9.1 k (Wr.length + j) q (q.1, e) (at_lt hk') (at_rt hj) rfl
      have h6 := (List.getElem?_eq_some_iff.mp hk').1
      omega
    · have h7 := (hPr k q hk').lt
      omega
  have hP2 : va_P D vwCl Wr H1 := hPr.kept (fun k q hk' => hk _ (hPr k q hk').lt (out k q hk'))
  have h3 : Sw_ (Wr ++ Wc') W2 := fun f => (h2 f).symm
  exact ⟨sw_P h3 (hP2.app hP1), sw_D h3 (hDr.app (hD1.weaken (fun k q _ ha => hF _ ha)) (fun i j p q hi hj hpq => out i p hi (by rw [hpq]; exact hD1.2 j q hj)))⟩
theorem bp_d (w_d w_s w_v w_f w_r w_z w_w w_g w_h w_b w_q w_t w_m w_o w_p : va_W) : Sw_ (w_d ++ w_s ++ w_v ++ w_f ++ w_r ++ w_z ++ w_w ++ w_g ++ w_h ++ w_b ++ w_q ++ w_t ++ w_m ++ w_o ++ w_p) ((w_s ++ w_v ++ w_f ++ w_r ++ w_z ++ w_w ++ w_g ++ w_h ++ w_b ++ w_q ++ w_t ++ w_m ++ w_o ++ w_p) ++ (w_d)) := fun f => by simp only [fc_app] <;> omega
theorem bp_do (w_d w_s w_v w_f w_r w_z w_w w_g w_h w_b w_q w_t w_m w_o w_p : va_W) : Sw_ (w_d ++ w_s ++ w_v ++ w_f ++ w_r ++ w_z ++ w_w ++ w_g ++ w_h ++ w_b ++ w_q ++ w_t ++ w_m ++ w_o ++ w_p) ((w_s ++ w_v ++ w_f ++ w_r ++ w_z ++ w_w ++ w_g ++ w_h ++ w_b ++ w_q ++ w_t ++ w_m ++ w_p) ++ (w_d ++ w_o)) := fun f => by simp only [fc_app] <;> omega
theorem bp_dsvfr (w_d w_s w_v w_f w_r w_z w_w w_g w_h w_b w_q w_t w_m w_o w_p : va_W) : Sw_ (w_d ++ w_s ++ w_v ++ w_f ++ w_r ++ w_z ++ w_w ++ w_g ++ w_h ++ w_b ++ w_q ++ w_t ++ w_m ++ w_o ++ w_p) ((w_z ++ w_w ++ w_g ++ w_h ++ w_b ++ w_q ++ w_t ++ w_m ++ w_o ++ w_p) ++ (w_d ++ w_s ++ w_v ++ w_f ++ w_r)) := fun f => by simp only [fc_app] <;> omega
theorem bp_dsvfrbo (w_d w_s w_v w_f w_r w_z w_w w_g w_h w_b w_q w_t w_m w_o w_p : va_W) : Sw_ (w_d ++ w_s ++ w_v ++ w_f ++ w_r ++ w_z ++ w_w ++ w_g ++ w_h ++ w_b ++ w_q ++ w_t ++ w_m ++ w_o ++ w_p) ((w_z ++ w_w ++ w_g ++ w_h ++ w_q ++ w_t ++ w_m ++ w_p) ++ (w_d ++ w_s ++ w_v ++ w_f ++ w_r ++ w_b ++ w_o)) := fun f => by simp only [fc_app] <;> omega
theorem bp_dsvfrbqto (w_d w_s w_v w_f w_r w_z w_w w_g w_h w_b w_q w_t w_m w_o w_p : va_W) : Sw_ (w_d ++ w_s ++ w_v ++ w_f ++ w_r ++ w_z ++ w_w ++ w_g ++ w_h ++ w_b ++ w_q ++ w_t ++ w_m ++ w_o ++ w_p) ((w_z ++ w_w ++ w_g ++ w_h ++ w_m ++ w_p) ++ (w_d ++ w_s ++ w_v ++ w_f ++ w_r ++ w_b ++ w_q ++ w_t ++ w_o)) := fun f => by simp only [fc_app] <;> omega
theorem bp_dsvfro (w_d w_s w_v w_f w_r w_z w_w w_g w_h w_b w_q w_t w_m w_o w_p : va_W) : Sw_ (w_d ++ w_s ++ w_v ++ w_f ++ w_r ++ w_z ++ w_w ++ w_g ++ w_h ++ w_b ++ w_q ++ w_t ++ w_m ++ w_o ++ w_p) ((w_z ++ w_w ++ w_g ++ w_h ++ w_b ++ w_q ++ w_t ++ w_m ++ w_p) ++ (w_d ++ w_s ++ w_v ++ w_f ++ w_r ++ w_o)) := fun f => by simp only [fc_app] <;> omega
theorem bp_dsvfrp (w_d w_s w_v w_f w_r w_z w_w w_g w_h w_b w_q w_t w_m w_o w_p : va_W) : Sw_ (w_d ++ w_s ++ w_v ++ w_f ++ w_r ++ w_z ++ w_w ++ w_g ++ w_h ++ w_b ++ w_q ++ w_t ++ w_m ++ w_o ++ w_p) ((w_z ++ w_w ++ w_g ++ w_h ++ w_b ++ w_q ++ w_t ++ w_m ++ w_o) ++ (w_d ++ w_s ++ w_v ++ w_f ++ w_r ++ w_p)) := fun f => by simp only [fc_app] <;> omega
theorem bp_dsvfrzwgh (w_d w_s w_v w_f w_r w_z w_w w_g w_h w_b w_q w_t w_m w_o w_p : va_W) : Sw_ (w_d ++ w_s ++ w_v ++ w_f ++ w_r ++ w_z ++ w_w ++ w_g ++ w_h ++ w_b ++ w_q ++ w_t ++ w_m ++ w_o ++ w_p) ((w_b ++ w_q ++ w_t ++ w_m ++ w_o ++ w_p) ++ (w_d ++ w_s ++ w_v ++ w_f ++ w_r ++ w_z ++ w_w ++ w_g ++ w_h)) := fun f => by simp only [fc_app] <;> omega
theorem bp_dsvfrzwgho (w_d w_s w_v w_f w_r w_z w_w w_g w_h w_b w_q w_t w_m w_o w_p : va_W) : Sw_ (w_d ++ w_s ++ w_v ++ w_f ++ w_r ++ w_z ++ w_w ++ w_g ++ w_h ++ w_b ++ w_q ++ w_t ++ w_m ++ w_o ++ w_p) ((w_b ++ w_q ++ w_t ++ w_m ++ w_p) ++ (w_d ++ w_s ++ w_v ++ w_f ++ w_r ++ w_z ++ w_w ++ w_g ++ w_h ++ w_o)) := fun f => by simp only [fc_app] <;> omega
theorem bp_dto (w_d w_s w_v w_f w_r w_z w_w w_g w_h w_b w_q w_t w_m w_o w_p : va_W) : Sw_ (w_d ++ w_s ++ w_v ++ w_f ++ w_r ++ w_z ++ w_w ++ w_g ++ w_h ++ w_b ++ w_q ++ w_t ++ w_m ++ w_o ++ w_p) ((w_s ++ w_v ++ w_f ++ w_r ++ w_z ++ w_w ++ w_g ++ w_h ++ w_b ++ w_q ++ w_m ++ w_p) ++ (w_d ++ w_t ++ w_o)) := fun f => by simp only [fc_app] <;> omega
theorem bp_m (w_d w_s w_v w_f w_r w_z w_w w_g w_h w_b w_q w_t w_m w_o w_p : va_W) : Sw_ (w_d ++ w_s ++ w_v ++ w_f ++ w_r ++ w_z ++ w_w ++ w_g ++ w_h ++ w_b ++ w_q ++ w_t ++ w_m ++ w_o ++ w_p) ((w_d ++ w_s ++ w_v ++ w_f ++ w_r ++ w_z ++ w_w ++ w_g ++ w_h ++ w_b ++ w_q ++ w_t ++ w_o ++ w_p) ++ (w_m)) := fun f => by simp only [fc_app] <;> omega
theorem bp_o (w_d w_s w_v w_f w_r w_z w_w w_g w_h w_b w_q w_t w_m w_o w_p : va_W) : Sw_ (w_d ++ w_s ++ w_v ++ w_f ++ w_r ++ w_z ++ w_w ++ w_g ++ w_h ++ w_b ++ w_q ++ w_t ++ w_m ++ w_o ++ w_p) ((w_d ++ w_s ++ w_v ++ w_f ++ w_r ++ w_z ++ w_w ++ w_g ++ w_h ++ w_b ++ w_q ++ w_t ++ w_m ++ w_p) ++ (w_o)) := fun f => by simp only [fc_app] <;> omega
theorem bp_p (w_d w_s w_v w_f w_r w_z w_w w_g w_h w_b w_q w_t w_m w_o w_p : va_W) : Sw_ (w_d ++ w_s ++ w_v ++ w_f ++ w_r ++ w_z ++ w_w ++ w_g ++ w_h ++ w_b ++ w_q ++ w_t ++ w_m ++ w_o ++ w_p) ((w_d ++ w_s ++ w_v ++ w_f ++ w_r ++ w_z ++ w_w ++ w_g ++ w_h ++ w_b ++ w_q ++ w_t ++ w_m ++ w_o) ++ (w_p)) := fun f => by simp only [fc_app] <;> omega
