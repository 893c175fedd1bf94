/-! p23, PURE: what the law's digest looks at. -/
theorem cnt_free {k : Nat} {F : FD} {A A' : Nat → AF} {z z' : Int32} {S S' : Nat → FD} {T T' : TD} {x : Int32} (h11 : ¬ x = 11) (h12 : ¬ x = 12) : p_X4_count k F A z S T x = p_X4_count k F A' z' S' T' x := by
  unfold p_X4_count
  rw [if_neg h11, if_neg h12, if_neg h11, if_neg h12]
theorem st43 {k : Nat} {F : FD} {A A' : Nat → AF} {z z' : Int32} {S S' : Nat → FD} {T T' : TD} : ∀ (n : Nat) (x1 : Int64) (x3 : Int32), p_L_state_L43 k F A z S T n x1 x3 = p_L_state_L43 k F A' z' S' T' n x1 x3
  | 0, x1, x3 => rfl
  | n + 1, x1, x3 => by
    rw [p_L_state_L43, p_L_state_L43, cnt_free (A' := A') (z' := z') (S' := S') (T' := T') (show ¬ (0 : Int32) = 11 by decide) (by decide)]
    congr 1
    funext v1
    split
    · rfl
    · congr 1
      funext v3
      congr 1
      funext v4
      exact st43 n v4 _
theorem st6 {k : Nat} {F : FD} {A A' : Nat → AF} {z z' : Int32} {S S' : Nat → FD} {T T' : TD} : ∀ (n : Nat) (x1 : Int64) (x3 : Int32), p_L_state_L6 k F A z S T n x1 x3 = p_L_state_L6 k F A' z' S' T' n x1 x3
  | 0, x1, x3 => rfl
  | n + 1, x1, x3 => by
    rw [p_L_state_L6, p_L_state_L6]
    by_cases c1 : 37 ≤ x3
    · rw [if_pos c1, if_pos c1]
      exact st43 k x1 0
    · rw [if_neg c1, if_neg c1]
      by_cases c2 : x3 = 11
      · rw [if_pos c2, if_pos c2]
        exact st6 n x1 _
      · rw [if_neg c2, if_neg c2]
        by_cases c3 : x3 = 12
        · rw [if_pos c3, if_pos c3]
          exact st6 n x1 _
        · rw [if_neg c3, if_neg c3, cnt_free (A' := A') (z' := z') (S' := S') (T' := T') c2 c3]
          congr 1
          funext v8
          congr 1
          funext v9
          exact st6 n v9 _
/-- the digest depends on the film alone -/
theorem st_free {k : Nat} {F : FD} {A A' : Nat → AF} {z z' : Int32} {S S' : Nat → FD} {T T' : TD} : p_L_state k F A z S T = p_L_state k F A' z' S' T' := by
  unfold p_L_state
  exact st6 k 9 0
theorem cnt_0 {k : Nat} {F : FD} {A : Nat → AF} {z : Int32} {S : Nat → FD} {T : TD} : p_X4_count k F A z S T 0 = some (FD.rows F) := rfl
theorem tot43 {k n : Nat} {u t : Nat → Nat} {F : FD} {M : MD} {A : Nat → AF} {z : Int32} {S : Nat → FD} {T : TD} (h : RF F (MD.st M) n t u) : ∀ (d i f : Nat) (x1 : Int64), i + d = 8 * n → d < f → ∃ v : Int64, p_L_state_L43 k F A z S T f x1 (nI i) = some v
  | 0, i, f, x1, hd, hf => by
    obtain ⟨f, rfl⟩ : ∃ f', f = f' + 1 := ⟨f - 1, by omega⟩
    have hi : i = 8 * n := by omega
    subst hi
    refine ⟨x1, ?_⟩
    rw [p_L_state_L43, cnt_0, Option.bind_some, h.2.1, show (8 : Int32) * nI n = nI (8 * n) from pk_mul 8 n, if_pos (Int32.le_refl _)]
  | d + 1, i, f, x1, hd, hf => by
    obtain ⟨f, rfl⟩ : ∃ f', f = f' + 1 := ⟨f - 1, by omega⟩
    have hn := h.1
    obtain ⟨r, e, -⟩ := rowR (k := k) h (nI i / 8) (nI i - nI i / 8 * 8)
    obtain ⟨v, hv⟩ := tot43 (k := k) (A := A) (z := z) (S := S) (T := T) h d (i + 1) f (31 * x1 + Int32.toInt64 r) (by omega) (by omega)
    refine ⟨v, ?_⟩
    rw [p_L_state_L43, cnt_0, Option.bind_some, h.2.1, show (8 : Int32) * nI n = nI (8 * n) from pk_mul 8 n, if_neg (nI_ge (by omega) (by omega)), e, Option.bind_some, nI_1]
    exact hv
theorem tot6 {k n : Nat} {u t : Nat → Nat} {F : FD} {M : MD} {A : Nat → AF} {z : Int32} {S : Nat → FD} {T : TD} (hk : 300 ≤ k) (h : RF F (MD.st M) n t u) (hz : z = MD.pasts M) (hl : TD.length T = MD.length M) : ∀ (d i f : Nat) (x1 : Int64), i + d = 37 → d < f → ∃ v : Int64, p_L_state_L6 k F A z S T f x1 (nI i) = some v
  | 0, i, f, x1, hd, hf => by
    obtain ⟨f, rfl⟩ : ∃ f', f = f' + 1 := ⟨f - 1, by omega⟩
    have hi : i = 37 := by omega
    subst hi
    have hn := h.1
    rw [p_L_state_L6, if_pos (show (37 : Int32) ≤ nI 37 by decide)]
    exact tot43 h (8 * n) 0 k x1 (by omega) (by omega)
  | d + 1, i, f, x1, hd, hf => by
    obtain ⟨f, rfl⟩ : ∃ f', f = f' + 1 := ⟨f - 1, by omega⟩
    rw [p_L_state_L6, if_neg (show ¬ (37 : Int32) ≤ nI i from nI_ge (b := 37) (by omega) (by decide)), nI_1]
    by_cases c2 : nI i = 11
    · rw [if_pos c2]
      exact tot6 hk h hz hl d (i + 1) f x1 (by omega) (by omega)
    · rw [if_neg c2]
      by_cases c3 : nI i = 12
      · rw [if_pos c3]
        exact tot6 hk h hz hl d (i + 1) f x1 (by omega) (by omega)
      · obtain ⟨r, e, -⟩ := cntR (k := k) (qA := A) (qz := z) (qS := S) (T := T) (by omega) h hz hl (nI i)
        rw [if_neg c3, e, Option.bind_some]
        exact tot6 hk h hz hl d (i + 1) f _ (by omega) (by omega)
theorem st_tot {k : Nat} {F : FD} {A : Nat → AF} {z : Int32} {S : Nat → FD} {T : TD} {M : MD} (hk : 300 ≤ k) (hR : RS F z S T M) : ∃ v : Int64, p_L_state k F A z S T = some v := by
  obtain ⟨⟨n, t, u, hf⟩, ⟨hh, -, hz1, hz2, -⟩, ⟨L, c, -, hl1, hl2, -⟩⟩ := hR
  unfold p_L_state
  exact tot6 hk hf (hz1.trans hz2.symm) (hl1.trans hl2.symm) 37 0 k 9 (by omega) (by omega)
