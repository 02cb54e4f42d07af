/-! joining -/
section
variable {k f e v i g G : Nat → Int32} {n : Nat} {key : Int32}
theorem WV_merge {a b : Nat} (hW : WV_ k f e i g n) (ha : a < n) (hb : b < n) (hab : a ≠ b) (hga : g a = 0) (hgb : g b = 0) (hk : k a = k b) (he : (e a).toInt = (f b).toInt) : WV_ k f (upd e a (e b)) i (upd g b 1) n := by
  have hrb := hW.2.2.1 b hb hgb
  have hra := hW.2.2.1 a ha hga
  have key : ∀ l, l < n → a ≠ l → b ≠ l → g l = 0 → k a = k l → (e b).toInt ≤ (f l).toInt ∨ (e l).toInt ≤ (f a).toInt := by
    intro l hl hal hbl hgl hkl
    have hrl := hW.2.2.1 l hl hgl
    have h1 := hW.2.2.2 a l ha hl hal hga hgl hkl
    have h2 := hW.2.2.2 b l hb hl hbl hgb hgl (hk.symm.trans hkl)
    omega
  have hz : ∀ j, j ≠ b → upd g b 1 j = g j := fun j h => up_n h
  have hnb : ∀ j, upd g b 1 j = 0 → j ≠ b := fun j h e => by rw [e, up_s] at h; exact absurd h (by decide)
  refine ⟨hW.1, fun j hj => ⟨?_, (hW.2.1 j hj).2⟩, fun j hj h => ?_, fun j l hj hl hjl h1 h2 h3 => ?_⟩
  · by_cases h : j = b
    · subst h
      rw [up_s]
      exact Or.inr rfl
    · rw [hz j h]
      exact (hW.2.1 j hj).1
  · have hj9 := hnb j h
    rw [hz j hj9] at h
    have hr := hW.2.2.1 j hj h
    by_cases hja : j = a
    · subst hja
      rw [up_s]
      omega
    · rw [up_n hja]
      exact hr
  · have hj9 := hnb j h1
    have hl9 := hnb l h2
    rw [hz j hj9] at h1
    rw [hz l hl9] at h2
    by_cases hja : j = a
    · subst hja
      rw [up_s, up_n (fun e => hjl e.symm)]
      exact key l hl hjl (fun e => hl9 e.symm) h2 h3
    · rw [up_n hja]
      by_cases hla : l = a
      · subst hla
        rw [up_s]
        exact (key j hj (fun e => hja e.symm) (fun e => hj9 e.symm) h1 h3.symm).symm
      · rw [up_n hla]
        exact hW.2.2.2 j l hj hl hjl h1 h2 h3
theorem WV_drop {b : Nat} (hW : WV_ k f e i g n) : WV_ k f e i (upd g b 1) n := by
  have hz : ∀ j, j ≠ b → upd g b 1 j = g j := fun j h => up_n h
  have hnb : ∀ j, upd g b 1 j = 0 → j ≠ b := fun j h e => by rw [e, up_s] at h; exact absurd h (by decide)
  refine ⟨hW.1, fun j hj => ⟨?_, (hW.2.1 j hj).2⟩, fun j hj h => ?_, fun j l hj hl hjl h1 h2 h3 => ?_⟩
  · by_cases h : j = b
    · subst h
      rw [up_s]
      exact Or.inr rfl
    · rw [hz j h]
      exact (hW.2.1 j hj).1
  · have hj9 := hnb j h
    rw [hz j hj9] at h
    exact hW.2.2.1 j hj h
  · rw [hz j (hnb j h1)] at h1
    rw [hz l (hnb l h2)] at h2
    exact hW.2.2.2 j l hj hl hjl h1 h2 h3
theorem cv_merge {a b : Nat} {K D : Int32} (ha : a < n) (hab : a ≠ b) (hga : g a = 0) (hk : k a = k b) (he : e a = f b) (hf : f a < e a) (hb : f b < e b) (h : cv_ k f e g n K D) : cv_ k f (upd e a (e b)) (upd g b 1) n K D := by
  obtain ⟨j, hj, h1, h2, h3, h4⟩ := h
  by_cases hja : j = a
  · subst hja
    exact ⟨j, hj, by rw [up_n hab]; exact h1, h2, h3, by rw [up_s]; exact Int32.lt_trans h4 (by rw [he]; exact hb)⟩
  · by_cases hjb : j = b
    · subst hjb
      exact ⟨a, ha, by rw [up_n hab]; exact hga, hk.trans h2, Int32.le_of_lt (Int32.lt_of_lt_of_le hf (by rw [he]; exact h3)), by rw [up_s]; exact h4⟩
    · exact ⟨j, hj, by rw [up_n hjb]; exact h1, h2, h3, by rw [up_n hja]; exact h4⟩
theorem mn_drop {b : Nat} (hb : b < n) (hB : g b = 0 ∧ k b = key) : mn_ k g n key = mn_ k (upd g b 1) n key + 1 := by
  unfold mn_
  refine cf_one (x := b) n 0 (Nat.zero_le _) (by omega) (dec_f (fun h => by rw [up_s] at h; exact absurd h.1 (by decide))) (dec_t hB) (fun j _ _ h => ?_)
  rw [up_n h]
theorem rk_drop {b : Nat} {x : Int32} (h : x ≤ f b) : rk_ k f (upd g b 1) n key x = rk_ k f g n key x := by
  unfold rk_
  refine cf_congr n 0 (fun j _ _ => ?_)
  by_cases hj : j = b
  · subst hj
    rw [dec_f (fun h1 => absurd h1.2 (Int32.not_lt.mpr h)), dec_f (fun h1 => absurd h1.2 (Int32.not_lt.mpr h))]
  · rw [up_n hj]
theorem rk_fle (hW : WV_ k f e i g n) {a b : Nat} (ha : a < n) (hb : b < n) (hA : g a = 0 ∧ k a = key) (hB : g b = 0 ∧ k b = key) (h : rk_ k f g n key (f a) < rk_ k f g n key (f b)) : f a < f b := by
  refine Int32.not_le.mp (fun h1 => ?_)
  have := rk_le (k := k) (f := f) (g := g) (n := n) (key := key) h1
  omega
end
section
variable {k f e v i g G mkept mspare mwas mtext mtold : Nat → Int32} {mhasKept mwasMany manew mthrown mlength mspot mvalue merror mtolds : Int32} {n : Nat} {key : Int32}
theorem areAlike_I {a b : Nat} (hn : n ≤ 60) (ha : a < n) (hb : b < n) : f_X4_areAlike (nI a) (nI b) (k, f, e, v, i, g, nI n) = some (if e a = f b ∧ v a = v b ∧ i a = 0 ∧ i b = 0 then 1 else 0) := by
  unfold f_X4_areAlike
  dsimp only
  simp only [gd_I (show a < 60 by omega) (show 60 < 2 ^ 31 by omega), gd_I (show b < 60 by omega) (show 60 < 2 ^ 31 by omega), cl_I (show a < 2 ^ 31 by omega), cl_I (show b < 2 ^ 31 by omega)]
  by_cases h1 : e a = f b
  · by_cases h2 : v a = v b
    · by_cases h3 : i a = 0
      · by_cases h4 : i b = 0
        · rw [if_pos h1, if_pos h2, if_pos h3, if_pos h4, if_pos ⟨h1, h2, h3, h4⟩]
        · rw [if_pos h1, if_pos h2, if_pos h3, if_neg h4, if_neg (fun h => h4 h.2.2.2)]
      · rw [if_pos h1, if_pos h2, if_neg h3, if_neg (fun h => h3 h.2.2.1)]
    · rw [if_pos h1, if_neg h2, if_neg (fun h => h2 h.2.1)]
  · rw [if_neg h1, if_neg (fun h => h1 h.1)]
theorem merge_I {a b : Nat} (hn : n ≤ 60) (ha : a < n) (hb : b < n) (hga : g a = 0) (hgb : g b = 0) : f_X4_merge (nI a) (nI b) (k, f, e, v, i, g, nI n) = some (k, f, upd e a (e b), v, i, upd g b 1, nI n) := by
  unfold f_X4_merge
  dsimp only
  rw [has_I hn ha, bd_s, if_pos hga, if_neg (by decide), has_I hn hb, bd_s, if_pos hgb, if_neg (by decide)]
  simp only [gd_I (show a < 60 by omega) (show 60 < 2 ^ 31 by omega), gd_I (show b < 60 by omega) (show 60 < 2 ^ 31 by omega), cl_I (show a < 2 ^ 31 by omega), cl_I (show b < 2 ^ 31 by omega), nm_s]
  rfl
theorem join_end {m : Nat} {s J : Int32} : f_X4_joinAlike_L12 (m + 1) s (-1) J key (k, f, e, v, i, g, nI n) = some (J, (k, f, e, v, i, g, nI n)) := by
  rw [e_X4_joinAlike_L12]
  unfold f_X4_joinAlike_S12
  dsimp only
  by_cases h : nI n ≤ s
  · rw [if_pos h]
  · rw [if_neg h, if_pos rfl]
end
