/-- the two sides agree, and the clock is small -/
def LwE (M : Nat → Nat → Int32) (N : Nat) : Prop := ∃ (n : Nat) (per wk dl of : Nat → Nat) (k : Nat) (st ln tk : Nat → Nat) (md tm : Nat), RelS M M n per wk dl of k st ln tk md tm ∧ tm ≤ 500 * N
section OPS
variable {M M1 M2 Mx : Nat → Nat → Int32} {n : Nat} {per wk dl of : Nat → Nat} {k : Nat} {st ln tk : Nat → Nat} {md tm N : Nat} {r b0 : Int32}
theorem LwE.mk (h : RelS Mx M2 n per wk dl of k st ln tk md tm) (hlo : ∀ a b, a < 38 → M2 a b = Mx a b) (ht : tm ≤ 500 * N) : LwE M2 N := ⟨n, per, wk, dl, of, k, st, ln, tk, md, tm, h.congr hlo (fun _ _ _ _ => rfl), ht⟩
theorem RelS.hi (h : RelS M M n per wk dl of k st ln tk md tm) (hk : ∀ a b, 38 ≤ a → a < 56 → M1 a b = M a b) : RelS M M1 n per wk dl of k st ln tk md tm := h.congr (fun _ _ _ => rfl) hk
theorem zst_56 {v : Int32} {a b : Nat} (h : a ≠ 56) : zst M 56 0 v a b = M a b := by rw [zst_ap, if_neg (fun z => h z.1)]
theorem zst_56v {v : Int32} : zst M 56 0 v 56 0 = v := by rw [zst_ap, if_pos ⟨rfl, rfl⟩]
theorem zst_f {v : Int32} : zst M 38 0 v 38 0 = v := by rw [zst_ap, if_pos ⟨rfl, rfl⟩]
theorem zst_o {v : Int32} {a b c d : Nat} (h : ¬ (a = c ∧ b = d)) : zst M c d v a b = M a b := by rw [zst_ap, if_neg h]
theorem LwE.refuse {v : Int32} (h : RelS M M n per wk dl of k st ln tk md tm) (ht : tm ≤ 500 * N) : LwE (zst M 38 0 v) (N + 1) := LwE.mk (h.fault v) (fun a b _ => zst_o (by omega)) (by omega)
theorem RelS.own (h : RelS M M1 n per wk dl of k st ln tk md tm) : ∀ u t, sp_at st ln tk k u = some t → t < n := fun u t q => by
  obtain ⟨j, hj, e⟩ := sp_at_in q
  rw [← e]; exact h.2.2.2.2.1 j hj
theorem RelS.rnE (h : RelS M M n per wk dl of k st ln tk md tm) : ∃ hh, md = 1 → sp_rd n per hh ∧ rnOK M n per wk dl of (fun x => sp_at st ln tk k x) hh tm := by
  by_cases e : md = 1
  · obtain ⟨hh, h1, h2, h3⟩ := h.rn e
    exact ⟨hh, fun _ => ⟨h1, h2⟩⟩
  · exact ⟨0, fun q => absurd q e⟩
theorem RelS.rm (h : RelS M M1 n per wk dl of k st ln tk md tm) {hh : Nat} (hr : md = 1 → sp_rd n per hh) : md = 1 → rmOK M1 n per wk dl of k st ln tk hh tm := fun e => by
  obtain ⟨h', h1, h2, h3⟩ := h.rn e
  have := sp_rd_uq h1 (hr e)
  subst this
  exact h3
theorem nI_uq {a b : Nat} {x : Int32} (h1 : x = nI a) (h2 : x = nI b) (ha : a < 2 ^ 31) (hb : b < 2 ^ 31) : a = b := (nI_eq ha hb).mp (h1.symm.trans h2)

theorem fr_load {M M1 : Nat → Nat → Int32} {n : Nat} {per wk dl of : Nat → Nat} {k : Nat} {st ln tk : Nat → Nat} {md tm : Nat} {r : Int32} {x v : Int32} (hR : RelS M M n per wk dl of k st ln tk md tm) (h1 : r = nI 0 ∧ (md = 0 ∧ ∃ j, j < 64 ∧ x = nI j ∧ M1 = zst M 11 j v) ∨ r = nI 1 ∧ M1 = M ∧ md = 1 ∨ r = nI 2 ∧ M1 = M ∧ md = 0 ∧ ¬ (¬ x < 0 ∧ x < nI 64)) : RelS M M1 n per wk dl of k st ln tk md tm := by
  refine hR.hi (fun a0 c0 ha hb => ?_)
  rcases h1 with ⟨-, -, j, -, -, rfl⟩ | ⟨-, rfl, -⟩ | ⟨-, rfl, -⟩
  · exact zst_o (by omega)
  · rfl
  · rfl
theorem op_load {M M1 M2 : Nat → Nat → Int32} {n : Nat} {per wk dl of : Nat → Nat} {k : Nat} {st ln tk : Nat → Nat} {md tm N : Nat} {r b0 : Int32} {x v : Int32} (hR : RelS M M n per wk dl of k st ln tk md tm) (hN : tm ≤ 500 * N)  (h1 : r = nI 0 ∧ (md = 0 ∧ ∃ j, j < 64 ∧ x = nI j ∧ M1 = zst M 11 j v) ∨ r = nI 1 ∧ M1 = M ∧ md = 1 ∨ r = nI 2 ∧ M1 = M ∧ md = 0 ∧ ¬ (¬ x < 0 ∧ x < nI 64)) (h2 : md = 1 ∧ M2 = zst M1 38 0 (nI 1) ∨ md = 0 ∧ ¬ (¬ x < 0 ∧ x < nI 64) ∧ M2 = zst M1 38 0 (nI 2) ∨ md = 0 ∧ ∃ j, j < 64 ∧ x = nI j ∧ M2 = zst (zst M1 38 0 (nI 0)) 47 j v) : M2 38 0 = r ∧ LwE M2 (N + 1) := by
  have hM := fr_load hR h1
  rcases h1 with ⟨rfl, hm0, j, hj, hx, e1⟩ | ⟨rfl, e1, hm1⟩ | ⟨rfl, e1, hm0, hx⟩
  · rcases h2 with ⟨g1, -⟩ | ⟨-, g2, -⟩ | ⟨-, j', hj', hx', e2⟩
    · exact absurd g1 (by omega)
    · exact absurd (by rw [hx]; exact xr_in hj (by decide)) g2
    · have ej := nI_uq hx hx' (by omega) (by omega)
      subst ej
      subst hm0
      have h0 := (hM.fault (nI 0)).load (j := j) (v := v)
      rw [← e1, ← e2] at h0
      refine ⟨by rw [e2, zst_o (by omega), zst_f], LwE.mk h0 (fun a b ha => by rw [e2, zst_o (by omega), zst_o (by omega)]) (by omega)⟩
  · rw [e1] at h2
    rcases h2 with ⟨-, rfl⟩ | ⟨g1, -⟩ | ⟨g1, -⟩
    · exact ⟨zst_f, LwE.refuse hR hN⟩
    · exact absurd g1 (by omega)
    · exact absurd g1 (by omega)
  · rw [e1] at h2
    rcases h2 with ⟨g1, -⟩ | ⟨-, -, rfl⟩ | ⟨-, j', hj', hx', -⟩
    · exact absurd g1 (by omega)
    · exact ⟨zst_f, LwE.refuse hR hN⟩
    · exact absurd (by rw [hx']; exact xr_in hj' (by decide)) hx
theorem fr_entry {M M1 : Nat → Nat → Int32} {n : Nat} {per wk dl of : Nat → Nat} {k : Nat} {st ln tk : Nat → Nat} {md tm : Nat} {r : Int32} {x y : Int32} (hR : RelS M M n per wk dl of k st ln tk md tm) (h1 : r = nI 0 ∧ (md = 0 ∧ ∃ j k, j < n ∧ k < 64 ∧ x = nI j ∧ y = nI k ∧ M1 = zst M (14 + j) 4 (nI k)) ∨ r = nI 1 ∧ M1 = M ∧ md = 1 ∨ r = nI 2 ∧ M1 = M ∧ md = 0 ∧ ¬ ((¬ x < 0 ∧ x < nI n) ∧ ¬ y < 0 ∧ y < nI 64)) : RelS M M1 n per wk dl of k st ln tk md tm := by
  refine hR.hi (fun a0 c0 ha hb => ?_)
  have hn6 := hR.1.1
  rcases h1 with ⟨-, -, j, -, hj, -, -, -, rfl⟩ | ⟨-, rfl, -⟩ | ⟨-, rfl, -⟩
  · exact zst_o (by omega)
  · rfl
  · rfl
theorem op_entry {M M1 M2 : Nat → Nat → Int32} {n : Nat} {per wk dl of : Nat → Nat} {k : Nat} {st ln tk : Nat → Nat} {md tm N : Nat} {r b0 : Int32} {x y : Int32} (hR : RelS M M n per wk dl of k st ln tk md tm) (hN : tm ≤ 500 * N)  (h1 : r = nI 0 ∧ (md = 0 ∧ ∃ j k, j < n ∧ k < 64 ∧ x = nI j ∧ y = nI k ∧ M1 = zst M (14 + j) 4 (nI k)) ∨ r = nI 1 ∧ M1 = M ∧ md = 1 ∨ r = nI 2 ∧ M1 = M ∧ md = 0 ∧ ¬ ((¬ x < 0 ∧ x < nI n) ∧ ¬ y < 0 ∧ y < nI 64)) (h2 : md = 1 ∧ M2 = zst M1 38 0 (nI 1) ∨ md = 0 ∧ ¬ ((¬ x < 0 ∧ x < nI n) ∧ ¬ y < 0 ∧ y < nI 64) ∧ M2 = zst M1 38 0 (nI 2) ∨ md = 0 ∧ ∃ j k, j < n ∧ k < 64 ∧ x = nI j ∧ y = nI k ∧ M2 = zst (zst M1 38 0 (nI 0)) 43 j (nI k)) : M2 38 0 = r ∧ LwE M2 (N + 1) := by
  have hM := fr_entry hR h1
  have hn6 := hR.1.1
  rcases h1 with ⟨rfl, hm0, j, i, hj, hi, hx, hy, e1⟩ | ⟨rfl, e1, hm1⟩ | ⟨rfl, e1, hm0, hx⟩
  · rcases h2 with ⟨g1, -⟩ | ⟨-, g2, -⟩ | ⟨-, j', i', hj', hi', hx', hy', e2⟩
    · exact absurd g1 (by omega)
    · exact absurd (by rw [hx, hy]; exact ⟨xr_in hj (by omega), xr_in hi (by decide)⟩) g2
    · have ej := nI_uq hx hx' (by omega) (by omega)
      subst ej
      have ei := nI_uq hy hy' (by omega) (by omega)
      subst ei
      subst hm0
      have h0 := (hM.fault (nI 0)).entry hj hi
      rw [← e1, ← e2] at h0
      refine ⟨by rw [e2, zst_o (by omega), zst_f], LwE.mk h0 (fun a b ha => by rw [e2, zst_o (by omega), zst_o (by omega)]) (by omega)⟩
  · rw [e1] at h2
    rcases h2 with ⟨-, rfl⟩ | ⟨g1, -⟩ | ⟨g1, -⟩
    · exact ⟨zst_f, LwE.refuse hR hN⟩
    · exact absurd g1 (by omega)
    · exact absurd g1 (by omega)
  · rw [e1] at h2
    rcases h2 with ⟨g1, -⟩ | ⟨-, -, rfl⟩ | ⟨-, j', i', hj', hi', hx', hy', -⟩
    · exact absurd g1 (by omega)
    · exact ⟨zst_f, LwE.refuse hR hN⟩
    · exact absurd (by rw [hx', hy']; exact ⟨xr_in hj' (by omega), xr_in hi' (by decide)⟩) hx
theorem fr_clear {M M1 : Nat → Nat → Int32} {n : Nat} {per wk dl of : Nat → Nat} {k : Nat} {st ln tk : Nat → Nat} {md tm : Nat} {r : Int32}  (hR : RelS M M n per wk dl of k st ln tk md tm) (h1 : r = nI 0 ∧ (md = 0 ∧ M1 = zst (zst M 1 0 (nI 0)) 3 0 (nI 0)) ∨ r = nI 1 ∧ M1 = M ∧ md = 1) : RelS M M1 n per wk dl of k st ln tk md tm := by
  refine hR.hi (fun a0 c0 ha hb => ?_)
  rcases h1 with ⟨-, -, rfl⟩ | ⟨-, rfl, -⟩
  · rw [zst_o (by omega), zst_o (by omega)]
  · rfl
theorem op_clear {M M1 M2 : Nat → Nat → Int32} {n : Nat} {per wk dl of : Nat → Nat} {k : Nat} {st ln tk : Nat → Nat} {md tm N : Nat} {r b0 : Int32}  (hR : RelS M M n per wk dl of k st ln tk md tm) (hN : tm ≤ 500 * N)  (h1 : r = nI 0 ∧ (md = 0 ∧ M1 = zst (zst M 1 0 (nI 0)) 3 0 (nI 0)) ∨ r = nI 1 ∧ M1 = M ∧ md = 1) (h2 : md = 1 ∧ M2 = zst M1 38 0 (nI 1) ∨ md = 0 ∧ M2 = zst (zst (zst M1 38 0 (nI 0)) 38 2 (nI 0)) 38 3 (nI 0)) : M2 38 0 = r ∧ LwE M2 (N + 1) := by
  have hM := fr_clear hR h1
  rcases h1 with ⟨rfl, hm0, e1⟩ | ⟨rfl, e1, hm1⟩
  · rcases h2 with ⟨g1, -⟩ | ⟨-, e2⟩
    · exact absurd g1 (by omega)
    · subst hm0
      have h0 := (hM.fault (nI 0)).clear
      rw [← e1, ← e2] at h0
      refine ⟨by rw [e2, zst_o (by omega), zst_o (by omega), zst_f], LwE.mk h0 (fun a b ha => by rw [e2, zst_o (by omega), zst_o (by omega), zst_o (by omega)]) (by omega)⟩
  · rw [e1] at h2
    rcases h2 with ⟨-, rfl⟩ | ⟨g1, -⟩
    · exact ⟨zst_f, LwE.refuse hR hN⟩
    · exact absurd g1 (by omega)
theorem fr_stop {M M1 : Nat → Nat → Int32} {n : Nat} {per wk dl of : Nat → Nat} {k : Nat} {st ln tk : Nat → Nat} {md tm : Nat} {r : Int32}  (hR : RelS M M n per wk dl of k st ln tk md tm) (h1 : r = nI 0 ∧ (md = 1 ∧ M1 = zst M 0 0 (nI 0)) ∨ r = nI 1 ∧ M1 = M ∧ md = 0) : RelS M M1 n per wk dl of k st ln tk md tm := by
  refine hR.hi (fun a0 c0 ha hb => ?_)
  rcases h1 with ⟨-, -, rfl⟩ | ⟨-, rfl, -⟩
  · rw [zst_o (by omega)]
  · rfl
theorem op_stop {M M1 M2 : Nat → Nat → Int32} {n : Nat} {per wk dl of : Nat → Nat} {k : Nat} {st ln tk : Nat → Nat} {md tm N : Nat} {r b0 : Int32}  (hR : RelS M M n per wk dl of k st ln tk md tm) (hN : tm ≤ 500 * N)  (h1 : r = nI 0 ∧ (md = 1 ∧ M1 = zst M 0 0 (nI 0)) ∨ r = nI 1 ∧ M1 = M ∧ md = 0) (h2 : md = 0 ∧ M2 = zst M1 38 0 (nI 1) ∨ md = 1 ∧ M2 = zst (zst M1 38 0 (nI 0)) 38 1 (nI 0)) : M2 38 0 = r ∧ LwE M2 (N + 1) := by
  have hM := fr_stop hR h1
  rcases h1 with ⟨rfl, hm0, e1⟩ | ⟨rfl, e1, hm1⟩
  · rcases h2 with ⟨g1, -⟩ | ⟨-, e2⟩
    · exact absurd g1 (by omega)
    · have h0 := (hM.fault (nI 0)).stop
      rw [← e1, ← e2] at h0
      refine ⟨by rw [e2, zst_o (by omega), zst_f], LwE.mk h0 (fun a b ha => by rw [e2, zst_o (by omega), zst_o (by omega)]) (by omega)⟩
  · rw [e1] at h2
    rcases h2 with ⟨-, rfl⟩ | ⟨g1, -⟩
    · exact ⟨zst_f, LwE.refuse hR hN⟩
    · exact absurd g1 (by omega)
theorem fr_drop {M M1 : Nat → Nat → Int32} {n : Nat} {per wk dl of : Nat → Nat} {k : Nat} {st ln tk : Nat → Nat} {md tm : Nat} {r : Int32}  (hR : RelS M M n per wk dl of k st ln tk md tm) (h1 : r = nI 0 ∧ (md = 0 ∧ 0 < k ∧ M1 = zst M 3 0 (nI (k - 1))) ∨ r = nI 1 ∧ M1 = M ∧ ((md = 1) ∨ (md = 0 ∧ k = 0))) : RelS M M1 n per wk dl of k st ln tk md tm := by
  refine hR.hi (fun a0 c0 ha hb => ?_)
  rcases h1 with ⟨-, -, -, rfl⟩ | ⟨-, rfl, -⟩
  · rw [zst_o (by omega)]
  · rfl
theorem op_drop {M M1 M2 : Nat → Nat → Int32} {n : Nat} {per wk dl of : Nat → Nat} {k : Nat} {st ln tk : Nat → Nat} {md tm N : Nat} {r b0 : Int32}  (hR : RelS M M n per wk dl of k st ln tk md tm) (hN : tm ≤ 500 * N)  (h1 : r = nI 0 ∧ (md = 0 ∧ 0 < k ∧ M1 = zst M 3 0 (nI (k - 1))) ∨ r = nI 1 ∧ M1 = M ∧ ((md = 1) ∨ (md = 0 ∧ k = 0))) (h2 : (md = 1 ∨ k = 0) ∧ M2 = zst M1 38 0 (nI 1) ∨ md = 0 ∧ 0 < k ∧ M2 = zst (zst M1 38 0 (nI 0)) 38 3 (nI (k - 1))) : M2 38 0 = r ∧ LwE M2 (N + 1) := by
  have hM := fr_drop hR h1
  rcases h1 with ⟨rfl, hm0, hk, e1⟩ | ⟨rfl, e1, hm1⟩
  · rcases h2 with ⟨g1, -⟩ | ⟨-, -, e2⟩
    · exact absurd g1 (by omega)
    · subst hm0
      have h0 := (hM.fault (nI 0)).drop
      rw [← e1, ← e2] at h0
      refine ⟨by rw [e2, zst_o (by omega), zst_f], LwE.mk h0 (fun a b ha => by rw [e2, zst_o (by omega), zst_o (by omega)]) (by omega)⟩
  · rw [e1] at h2
    rcases h2 with ⟨-, rfl⟩ | ⟨g1, g2, -⟩
    · exact ⟨zst_f, LwE.refuse hR hN⟩
    · exact absurd g1 (by omega)
theorem fr_slot {M M1 : Nat → Nat → Int32} {n : Nat} {per wk dl of : Nat → Nat} {k : Nat} {st ln tk : Nat → Nat} {md tm : Nat} {r : Int32} {x a b z : Int32} (hR : RelS M M n per wk dl of k st ln tk md tm) (h1 : r = nI 0 ∧ (md = 0 ∧ ∃ i q1 q2 t, i ≤ k ∧ i < 60 ∧ q1 < 240 ∧ 1 ≤ q2 ∧ q2 ≤ 240 ∧ t < n ∧ x = nI i ∧ a = nI q1 ∧ b = nI q2 ∧ z = nI t ∧ M1 = zPut M i k a b z) ∨ r = nI 1 ∧ M1 = M ∧ md = 1 ∨ r = nI 2 ∧ M1 = M ∧ md = 0 ∧ ¬ ((¬ x < 0 ∧ (x < nI (k + 1) ∧ x < nI 60)) ∧ ¬ z < 0 ∧ z < nI n) ∨ r = nI 3 ∧ M1 = M ∧ md = 0 ∧ ((¬ x < 0 ∧ (x < nI (k + 1) ∧ x < nI 60)) ∧ ¬ z < 0 ∧ z < nI n) ∧ ¬ (¬ a < 0 ∧ a < nI 240 ∧ ¬ b < nI 1 ∧ ¬ nI 240 < b)) : RelS M M1 n per wk dl of k st ln tk md tm := by
  refine hR.hi (fun a0 c0 ha hb => ?_)
  rcases h1 with ⟨-, -, i, q1, q2, t, -, -, -, -, -, -, -, -, -, -, rfl⟩ | ⟨-, rfl, -⟩ | ⟨-, rfl, -⟩ | ⟨-, rfl, -⟩
  · unfold zPut
    split
    · rw [zst_o (by omega), zst_o (by omega), zst_o (by omega), zst_o (by omega)]
    · rw [zst_o (by omega), zst_o (by omega), zst_o (by omega)]
  · rfl
  · rfl
  · rfl
theorem op_slot {M M1 M2 : Nat → Nat → Int32} {n : Nat} {per wk dl of : Nat → Nat} {k : Nat} {st ln tk : Nat → Nat} {md tm N : Nat} {r b0 : Int32} {x a b z : Int32} (hR : RelS M M n per wk dl of k st ln tk md tm) (hN : tm ≤ 500 * N)  (h1 : r = nI 0 ∧ (md = 0 ∧ ∃ i q1 q2 t, i ≤ k ∧ i < 60 ∧ q1 < 240 ∧ 1 ≤ q2 ∧ q2 ≤ 240 ∧ t < n ∧ x = nI i ∧ a = nI q1 ∧ b = nI q2 ∧ z = nI t ∧ M1 = zPut M i k a b z) ∨ r = nI 1 ∧ M1 = M ∧ md = 1 ∨ r = nI 2 ∧ M1 = M ∧ md = 0 ∧ ¬ ((¬ x < 0 ∧ (x < nI (k + 1) ∧ x < nI 60)) ∧ ¬ z < 0 ∧ z < nI n) ∨ r = nI 3 ∧ M1 = M ∧ md = 0 ∧ ((¬ x < 0 ∧ (x < nI (k + 1) ∧ x < nI 60)) ∧ ¬ z < 0 ∧ z < nI n) ∧ ¬ (¬ a < 0 ∧ a < nI 240 ∧ ¬ b < nI 1 ∧ ¬ nI 240 < b)) (h2 : md = 1 ∧ M2 = zst M1 38 0 (nI 1) ∨ md = 0 ∧ ¬ ((¬ x < 0 ∧ (x < nI (k + 1) ∧ x < nI 60)) ∧ ¬ z < 0 ∧ z < nI n) ∧ M2 = zst M1 38 0 (nI 2) ∨ md = 0 ∧ ((¬ x < 0 ∧ (x < nI (k + 1) ∧ x < nI 60)) ∧ ¬ z < 0 ∧ z < nI n) ∧ ¬ (¬ a < 0 ∧ a < nI 240 ∧ ¬ b < nI 1 ∧ ¬ nI 240 < b) ∧ M2 = zst M1 38 0 (nI 3) ∨ md = 0 ∧ ∃ i q1 q2 t, i ≤ k ∧ i < 60 ∧ q1 < 240 ∧ 1 ≤ q2 ∧ q2 ≤ 240 ∧ t < n ∧ x = nI i ∧ a = nI q1 ∧ b = nI q2 ∧ z = nI t ∧ M2 = zPuY M1 i k a b z) : M2 38 0 = r ∧ LwE M2 (N + 1) := by
  have hM := fr_slot hR h1
  have hn6 := hR.1.1
  have hk60 := hR.2.2.1.2.1
  have rng : ∀ i t : Nat, i ≤ k → i < 60 → t < n → (¬ nI i < 0 ∧ (nI i < nI (k + 1) ∧ nI i < nI 60)) ∧ ¬ nI t < 0 ∧ nI t < nI n := fun i t h3 h4 h5 => ⟨⟨nI_pos (by omega), nI_lt (by omega) (by omega), nI_lt h4 (by decide)⟩, xr_in h5 (by omega)⟩
  have rng2 : ∀ q1 q2 : Nat, q1 < 240 → 1 ≤ q2 → q2 ≤ 240 → ¬ nI q1 < 0 ∧ nI q1 < nI 240 ∧ ¬ nI q2 < nI 1 ∧ ¬ nI 240 < nI q2 := fun q1 q2 h3 h4 h5 => ⟨nI_pos (by omega), nI_lt h3 (by decide), nI_nlt h4 (by omega), nI_nlt h5 (by decide)⟩
  rcases h1 with ⟨rfl, hm0, i, q1, q2, t, u1, u2, u3, u4, u5, u6, u7, u8, u9, u0, e1⟩ | ⟨rfl, e1, hm1⟩ | ⟨rfl, e1, hm0, hx⟩ | ⟨rfl, e1, hm0, hx, hy⟩
  · rcases h2 with ⟨g1, -⟩ | ⟨-, g2, -⟩ | ⟨-, -, g2, -⟩ | ⟨-, i', q1', q2', t', v1, v2, v3, v4, v5, v6, v7, v8, v9, v0, e2⟩
    · exact absurd g1 (by omega)
    · exact absurd (by rw [u7, u0]; exact rng i t u1 u2 u6) g2
    · exact absurd (by rw [u8, u9]; exact rng2 q1 q2 u3 u4 u5) g2
    · have ei := nI_uq u7 v7 (by omega) (by omega)
      subst ei
      subst hm0
      have h0 := hM.slot u1 u2 u3 u4 u5 u6
      rw [← u8, ← u9, ← u0, ← e1, ← e2] at h0
      refine ⟨?_, LwE.mk h0 (fun a b ha => ?_) (by omega)⟩
      · rw [e2]; unfold zPuY
        rw [zst_o (by omega), zst_o (by omega), zst_o (by omega), zst_o (by omega), zst_f]
      · rw [e2]; unfold zPuY
        rw [zst_o (by omega), zst_o (by omega), zst_o (by omega), zst_o (by omega), zst_o (by omega)]
  · rw [e1] at h2
    rcases h2 with ⟨-, rfl⟩ | ⟨g1, -⟩ | ⟨g1, -⟩ | ⟨g1, -⟩
    · exact ⟨zst_f, LwE.refuse hR hN⟩
    · exact absurd g1 (by omega)
    · exact absurd g1 (by omega)
    · exact absurd g1 (by omega)
  · rw [e1] at h2
    rcases h2 with ⟨g1, -⟩ | ⟨-, -, rfl⟩ | ⟨-, g2, -⟩ | ⟨-, i', q1', q2', t', v1, v2, v3, v4, v5, v6, v7, v8, v9, v0, -⟩
    · exact absurd g1 (by omega)
    · exact ⟨zst_f, LwE.refuse hR hN⟩
    · exact absurd g2 hx
    · exact absurd (by rw [v7, v0]; exact rng i' t' v1 v2 v6) hx
  · rw [e1] at h2
    rcases h2 with ⟨g1, -⟩ | ⟨-, g2, -⟩ | ⟨-, -, -, rfl⟩ | ⟨-, i', q1', q2', t', v1, v2, v3, v4, v5, v6, v7, v8, v9, v0, -⟩
    · exact absurd g1 (by omega)
    · exact absurd hx g2
    · exact ⟨zst_f, LwE.refuse hR hN⟩
    · exact absurd (by rw [v8, v9]; exact rng2 q1' q2' v3 v4 v5) hy
theorem fr_task {M M1 : Nat → Nat → Int32} {n : Nat} {per wk dl of : Nat → Nat} {k : Nat} {st ln tk : Nat → Nat} {md tm : Nat} {r : Int32} {x y z o : Int32} (hR : RelS M M n per wk dl of k st ln tk md tm) (h1 : r = nI 0 ∧ (∃ v Mx, (md = 0 ∧ n < 6 ∧ sp_isT x y z o ∧ Mx = zApp M n x y z o ∧ v = nI n) ∧ M1 = zst Mx 56 0 v) ∨ r = nI 1 ∧ M1 = M ∧ ((md = 1) ∨ (md = 0 ∧ n = 6)) ∨ r = nI 2 ∧ M1 = M ∧ md = 0 ∧ n < 6 ∧ ¬ sp_isT x y z o) : RelS M M1 n per wk dl of k st ln tk md tm := by
  refine hR.hi (fun a0 c0 ha hb => ?_)
  rcases h1 with ⟨-, v, Mx, ⟨-, hn, -, rfl, -⟩, rfl⟩ | ⟨-, rfl, -⟩ | ⟨-, rfl, -⟩
  · rw [zst_56 (by omega), zApp_ap, if_neg (by omega), if_neg (by omega), if_neg (by omega), if_neg (by omega), if_neg (by omega), if_neg (by omega), if_neg (by omega), if_neg (by omega)]
  · rfl
  · rfl
theorem op_task {M M1 M2 : Nat → Nat → Int32} {n : Nat} {per wk dl of : Nat → Nat} {k : Nat} {st ln tk : Nat → Nat} {md tm N : Nat} {r b0 : Int32} {x y z o : Int32} (hR : RelS M M n per wk dl of k st ln tk md tm) (hN : tm ≤ 500 * N)  (h1 : r = nI 0 ∧ (∃ v Mx, (md = 0 ∧ n < 6 ∧ sp_isT x y z o ∧ Mx = zApp M n x y z o ∧ v = nI n) ∧ M1 = zst Mx 56 0 v) ∨ r = nI 1 ∧ M1 = M ∧ ((md = 1) ∨ (md = 0 ∧ n = 6)) ∨ r = nI 2 ∧ M1 = M ∧ md = 0 ∧ n < 6 ∧ ¬ sp_isT x y z o) (h2 : (md = 1 ∨ n = 6) ∧ M2 = zst M1 38 0 (nI 1) ∨ md = 0 ∧ n < 6 ∧ ¬ sp_isT x y z o ∧ M2 = zst M1 38 0 (nI 2) ∨ md = 0 ∧ n < 6 ∧ sp_isT x y z o ∧ M2 = zst (zCn4 (zApY M1 n x y z o) n 4) 38 2 (nI (n + 1)) ∧ b0 = nI n) : M2 38 0 = r ∧ (r = nI 0 → M2 56 0 = b0) ∧ LwE M2 (N + 1) := by
  have hM := fr_task hR h1
  rcases h1 with ⟨rfl, v, Mx, ⟨hm0, hn, hT, e0, ev⟩, e1⟩ | ⟨rfl, e1, hm1⟩ | ⟨rfl, e1, hm0, hn, hT⟩
  · rcases h2 with ⟨g1, -⟩ | ⟨-, -, g2, -⟩ | ⟨-, -, -, e2, eb⟩
    · exact absurd g1 (by omega)
    · exact absurd hT g2
    · subst hm0
      obtain ⟨p', w', d', o', y1, y2, y3, y4, y5, y6, y7, y8, y9⟩ := sp_isT_nI hT
      have out : ∀ a b, a ≠ 54 → (a < 38 ∨ 43 < a) → M2 a b = M1 a b := by
        intro a b h3 h4
        rw [e2, zst_o (by omega), zCn4_out h3]
        unfold zApY
        rw [zst_o (by omega), zst_o (by omega), zst_o (by omega), zst_o (by omega), zst_o (by omega), zst_o (by omega)]
      have h0 := hM.task hn y5 y6 y7 y8 y9
      rw [← y1, ← y2, ← y3, ← y4, ← e0, ← e2] at h0
      refine ⟨?_, fun _ => ?_, LwE.mk h0 (fun a b ha => ?_) (by omega)⟩
      · rw [e2, zst_o (by omega), zCn4_out (by omega)]
        unfold zApY
        rw [zst_o (by omega), zst_o (by omega), zst_o (by omega), zst_o (by omega), zst_o (by omega), zst_f]
      · rw [out _ _ (by omega) (by omega), e1, zst_56v, ev, eb]
      · rw [out _ _ (by omega) (by omega), e1, zst_56 (by omega)]
  · rw [e1] at h2
    rcases h2 with ⟨-, rfl⟩ | ⟨g1, g2, -⟩ | ⟨g1, g2, -⟩
    · exact ⟨zst_f, fun q => absurd q (by decide), LwE.refuse hR hN⟩
    · exact absurd g1 (by omega)
    · exact absurd g1 (by omega)
  · rw [e1] at h2
    rcases h2 with ⟨g1, -⟩ | ⟨-, -, -, rfl⟩ | ⟨-, -, g2, -⟩
    · exact absurd g1 (by omega)
    · exact ⟨zst_f, fun q => absurd q (by decide), LwE.refuse hR hN⟩
    · exact absurd g2 hT
theorem fr_slotOf {M M1 : Nat → Nat → Int32} {n : Nat} {per wk dl of : Nat → Nat} {k : Nat} {st ln tk : Nat → Nat} {md tm : Nat} {r : Int32} {x y : Int32} (hR : RelS M M n per wk dl of k st ln tk md tm) (h1 : r = nI 0 ∧ (∃ v Mx, (Mx = M ∧ ∃ i w, i < k ∧ w < 3 ∧ x = nI i ∧ y = nI w ∧ v = if w = 0 then M 4 i else if w = 1 then M 5 i else M 6 i) ∧ M1 = zst Mx 56 0 v) ∨ r = nI 1 ∧ M1 = M ∧ ¬ ((¬ x < 0 ∧ x < nI k) ∧ ¬ y < 0 ∧ y < nI 3)) : RelS M M1 n per wk dl of k st ln tk md tm := by
  refine hR.hi (fun a0 c0 ha hb => ?_)
  rcases h1 with ⟨-, v, Mx, ⟨rfl, -⟩, rfl⟩ | ⟨-, rfl, -⟩
  · exact zst_56 (by omega)
  · rfl
theorem op_slotOf {M M1 M2 : Nat → Nat → Int32} {n : Nat} {per wk dl of : Nat → Nat} {k : Nat} {st ln tk : Nat → Nat} {md tm N : Nat} {r b0 : Int32} {x y : Int32} (hR : RelS M M n per wk dl of k st ln tk md tm) (hN : tm ≤ 500 * N)  (h1 : r = nI 0 ∧ (∃ v Mx, (Mx = M ∧ ∃ i w, i < k ∧ w < 3 ∧ x = nI i ∧ y = nI w ∧ v = if w = 0 then M 4 i else if w = 1 then M 5 i else M 6 i) ∧ M1 = zst Mx 56 0 v) ∨ r = nI 1 ∧ M1 = M ∧ ¬ ((¬ x < 0 ∧ x < nI k) ∧ ¬ y < 0 ∧ y < nI 3)) (h2 : ¬ ((¬ x < 0 ∧ x < nI k) ∧ ¬ y < 0 ∧ y < nI 3) ∧ M2 = zst M1 38 0 (nI 1) ∨ ∃ i w, i < k ∧ w < 3 ∧ x = nI i ∧ y = nI w ∧ M2 = zst M1 38 0 (nI 0) ∧ b0 = if w = 0 then M1 44 i else if w = 1 then M1 45 i else M1 46 i) : M2 38 0 = r ∧ (r = nI 0 → M2 56 0 = b0) ∧ LwE M2 (N + 1) := by
  have hM := fr_slotOf hR h1
  have hk60 := hR.2.2.1.2.1
  have rng : ∀ i w : Nat, i < k → w < 3 → (¬ nI i < 0 ∧ nI i < nI k) ∧ ¬ nI w < 0 ∧ nI w < nI 3 := fun i w h3 h4 => ⟨xr_in h3 (by omega), xr_in h4 (by decide)⟩
  rcases h1 with ⟨rfl, v, Mx, ⟨e0, i, w, hi, hw, hx, hy, ev⟩, e1⟩ | ⟨rfl, e1, hx⟩
  · rcases h2 with ⟨g1, -⟩ | ⟨i', w', hi', hw', hx', hy', e2, eb⟩
    · exact absurd (by rw [hx, hy]; exact rng i w hi hw) g1
    · have ei := nI_uq hx hx' (by omega) (by omega)
      subst ei
      have ew := nI_uq hy hy' (by omega) (by omega)
      subst ew
      have s1 := hR.2.2.1.2.2 i hi
      have s2 := hM.2.2.2.1.2.2 i hi
      have h0 := hM.fault (nI 0)
      rw [← e2] at h0
      refine ⟨by rw [e2, zst_f], fun _ => ?_, LwE.mk h0 (fun a b ha => by rw [e2, zst_o (by omega), e1, zst_56 (by omega), e0]) (by omega)⟩
      rw [e2, zst_o (by omega), e1, zst_56v, ev, eb, s1.1, s1.2.1, s1.2.2.1, s2.1, s2.2.1, s2.2.2.1]
  · rw [e1] at h2
    rcases h2 with ⟨-, rfl⟩ | ⟨i', w', hi', hw', hx', hy', -⟩
    · exact ⟨zst_f, fun q => absurd q (by decide), LwE.refuse hR hN⟩
    · exact absurd (by rw [hx', hy']; exact rng i' w' hi' hw') hx
theorem fr_count {M M1 : Nat → Nat → Int32} {n : Nat} {per wk dl of : Nat → Nat} {k : Nat} {st ln tk : Nat → Nat} {md tm : Nat} {r : Int32} {x y : Int32} (hR : RelS M M n per wk dl of k st ln tk md tm) (h1 : r = nI 0 ∧ (∃ v Mx, (Mx = M ∧ ∃ i w, i < n ∧ w < 4 ∧ x = nI i ∧ y = nI w ∧ v = M (32 + i) w) ∧ M1 = zst Mx 56 0 v) ∨ r = nI 1 ∧ M1 = M ∧ ¬ ((¬ x < 0 ∧ x < nI n) ∧ ¬ y < 0 ∧ y < nI 4)) : RelS M M1 n per wk dl of k st ln tk md tm := by
  refine hR.hi (fun a0 c0 ha hb => ?_)
  rcases h1 with ⟨-, v, Mx, ⟨rfl, -⟩, rfl⟩ | ⟨-, rfl, -⟩
  · exact zst_56 (by omega)
  · rfl
theorem op_count {M M1 M2 : Nat → Nat → Int32} {n : Nat} {per wk dl of : Nat → Nat} {k : Nat} {st ln tk : Nat → Nat} {md tm N : Nat} {r b0 : Int32} {x y : Int32} (hR : RelS M M n per wk dl of k st ln tk md tm) (hN : tm ≤ 500 * N)  (h1 : r = nI 0 ∧ (∃ v Mx, (Mx = M ∧ ∃ i w, i < n ∧ w < 4 ∧ x = nI i ∧ y = nI w ∧ v = M (32 + i) w) ∧ M1 = zst Mx 56 0 v) ∨ r = nI 1 ∧ M1 = M ∧ ¬ ((¬ x < 0 ∧ x < nI n) ∧ ¬ y < 0 ∧ y < nI 4)) (h2 : ¬ ((¬ x < 0 ∧ x < nI n) ∧ ¬ y < 0 ∧ y < nI 4) ∧ M2 = zst M1 38 0 (nI 1) ∨ ∃ i w, i < n ∧ w < 4 ∧ x = nI i ∧ y = nI w ∧ M2 = zst M1 38 0 (nI 0) ∧ b0 = M1 54 (4 * i + w)) : M2 38 0 = r ∧ (r = nI 0 → M2 56 0 = b0) ∧ LwE M2 (N + 1) := by
  have hM := fr_count hR h1
  have hn6 := hR.1.1
  have rng : ∀ i w : Nat, i < n → w < 4 → (¬ nI i < 0 ∧ nI i < nI n) ∧ ¬ nI w < 0 ∧ nI w < nI 4 := fun i w h3 h4 => ⟨xr_in h3 (by omega), xr_in h4 (by decide)⟩
  rcases h1 with ⟨rfl, v, Mx, ⟨e0, i, w, hi, hw, hx, hy, ev⟩, e1⟩ | ⟨rfl, e1, hx⟩
  · rcases h2 with ⟨g1, -⟩ | ⟨i', w', hi', hw', hx', hy', e2, eb⟩
    · exact absurd (by rw [hx, hy]; exact rng i w hi hw) g1
    · have ei := nI_uq hx hx' (by omega) (by omega)
      subst ei
      have ew := nI_uq hy hy' (by omega) (by omega)
      subst ew
      have s2 := hM.2.2.2.2.2.2.1.2.2 i hi w hw
      have h0 := hM.fault (nI 0)
      rw [← e2] at h0
      refine ⟨by rw [e2, zst_f], fun _ => ?_, LwE.mk h0 (fun a b ha => by rw [e2, zst_o (by omega), e1, zst_56 (by omega), e0]) (by omega)⟩
      rw [e2, zst_o (by omega), e1, zst_56v, ev, eb, s2]
  · rw [e1] at h2
    rcases h2 with ⟨-, rfl⟩ | ⟨i', w', hi', hw', hx', hy', -⟩
    · exact ⟨zst_f, fun q => absurd q (by decide), LwE.refuse hR hN⟩
    · exact absurd (by rw [hx', hy']; exact rng i' w' hi' hw') hx
theorem fr_shared {M M1 : Nat → Nat → Int32} {n : Nat} {per wk dl of : Nat → Nat} {k : Nat} {st ln tk : Nat → Nat} {md tm : Nat} {r : Int32} {x : Int32} (hR : RelS M M n per wk dl of k st ln tk md tm) (h1 : r = nI 0 ∧ (∃ v Mx, (Mx = M ∧ ∃ i, i < 16 ∧ x = nI i ∧ v = M 12 i) ∧ M1 = zst Mx 56 0 v) ∨ r = nI 1 ∧ M1 = M ∧ ¬ (¬ x < 0 ∧ x < nI 16)) : RelS M M1 n per wk dl of k st ln tk md tm := by
  refine hR.hi (fun a0 c0 ha hb => ?_)
  rcases h1 with ⟨-, v, Mx, ⟨rfl, -⟩, rfl⟩ | ⟨-, rfl, -⟩
  · exact zst_56 (by omega)
  · rfl
theorem op_shared {M M1 M2 : Nat → Nat → Int32} {n : Nat} {per wk dl of : Nat → Nat} {k : Nat} {st ln tk : Nat → Nat} {md tm N : Nat} {r b0 : Int32} {x : Int32} (hR : RelS M M n per wk dl of k st ln tk md tm) (hN : tm ≤ 500 * N)  (h1 : r = nI 0 ∧ (∃ v Mx, (Mx = M ∧ ∃ i, i < 16 ∧ x = nI i ∧ v = M 12 i) ∧ M1 = zst Mx 56 0 v) ∨ r = nI 1 ∧ M1 = M ∧ ¬ (¬ x < 0 ∧ x < nI 16)) (h2 : ¬ (¬ x < 0 ∧ x < nI 16) ∧ M2 = zst M1 38 0 (nI 1) ∨ ∃ i, i < 16 ∧ x = nI i ∧ M2 = zst M1 38 0 (nI 0) ∧ b0 = M1 48 i) : M2 38 0 = r ∧ (r = nI 0 → M2 56 0 = b0) ∧ LwE M2 (N + 1) := by
  have hM := fr_shared hR h1
  rcases h1 with ⟨rfl, v, Mx, ⟨e0, i, hi, hx, ev⟩, e1⟩ | ⟨rfl, e1, hx⟩
  · rcases h2 with ⟨g1, -⟩ | ⟨i', hi', hx', e2, eb⟩
    · exact absurd (by rw [hx]; exact xr_in hi (by decide)) g1
    · have ei := nI_uq hx hx' (by omega) (by omega)
      subst ei
      have s2 := hM.2.2.2.2.2.2.1.2.1 i hi
      have h0 := hM.fault (nI 0)
      rw [← e2] at h0
      refine ⟨by rw [e2, zst_f], fun _ => ?_, LwE.mk h0 (fun a b ha => by rw [e2, zst_o (by omega), e1, zst_56 (by omega), e0]) (by omega)⟩
      rw [e2, zst_o (by omega), e1, zst_56v, ev, eb, s2]
  · rw [e1] at h2
    rcases h2 with ⟨-, rfl⟩ | ⟨i', hi', hx', -⟩
    · exact ⟨zst_f, fun q => absurd q (by decide), LwE.refuse hR hN⟩
    · exact absurd (by rw [hx']; exact xr_in hi' (by decide)) hx
theorem fr_synthesize {M M1 : Nat → Nat → Int32} {n : Nat} {per wk dl of : Nat → Nat} {k : Nat} {st ln tk : Nat → Nat} {md tm : Nat} {r : Int32}  (hR : RelS M M n per wk dl of k st ln tk md tm) (h1 : r = nI 0 ∧ (∃ v Mx, (md = 0 ∧ (∀ a b, a ≠ 3 → a ≠ 4 → a ≠ 5 → a ≠ 6 → a ≠ 8 → a ≠ 9 → a ≠ 13 → Mx a b = M a b) ∧ sp_syn n per wk dl of v (Mx 3 0) Mx 4 5 6) ∧ M1 = zst Mx 56 0 v) ∨ r = nI 1 ∧ M1 = M ∧ md = 1) : RelS M M1 n per wk dl of k st ln tk md tm := by
  refine hR.hi (fun a0 c0 ha hb => ?_)
  rcases h1 with ⟨-, v, Mx, ⟨-, h3, -⟩, rfl⟩ | ⟨-, rfl, -⟩
  · rw [zst_56 (by omega)]; exact h3 _ _ (by omega) (by omega) (by omega) (by omega) (by omega) (by omega) (by omega)
  · rfl
theorem op_synthesize {M M1 M2 : Nat → Nat → Int32} {n : Nat} {per wk dl of : Nat → Nat} {k : Nat} {st ln tk : Nat → Nat} {md tm N : Nat} {r b0 : Int32}  (hR : RelS M M n per wk dl of k st ln tk md tm) (hN : tm ≤ 500 * N)  (h1 : r = nI 0 ∧ (∃ v Mx, (md = 0 ∧ (∀ a b, a ≠ 3 → a ≠ 4 → a ≠ 5 → a ≠ 6 → a ≠ 8 → a ≠ 9 → a ≠ 13 → Mx a b = M a b) ∧ sp_syn n per wk dl of v (Mx 3 0) Mx 4 5 6) ∧ M1 = zst Mx 56 0 v) ∨ r = nI 1 ∧ M1 = M ∧ md = 1) (h2 : md = 1 ∧ M2 = zst M1 38 0 (nI 1) ∨ md = 0 ∧ M2 38 0 = nI 0 ∧ (∀ a b, a ≠ 38 → a ≠ 44 → a ≠ 45 → a ≠ 46 → a ≠ 49 → a ≠ 50 → a ≠ 51 → a ≠ 55 → M2 a b = M1 a b) ∧ (∀ b, b ≠ 0 → b ≠ 3 → M2 38 b = M1 38 b) ∧ sp_syn n per wk dl of b0 (M2 38 3) M2 44 45 46) : M2 38 0 = r ∧ (r = nI 0 → M2 56 0 = b0) ∧ LwE M2 (N + 1) := by
  have hM := fr_synthesize hR h1
  rcases h1 with ⟨rfl, v, Mx, ⟨hm0, h3, h4⟩, e1⟩ | ⟨rfl, e1, hm1⟩
  · rcases h2 with ⟨g1, -⟩ | ⟨-, e2, h5, h6, h7⟩
    · exact absurd g1 (by omega)
    · subst hm0
      obtain ⟨eb, k', st', ln', tk', hS⟩ := hM.syn h3 h4 h5 h6 h7
      refine ⟨e2, fun _ => ?_, LwE.mk hS (fun a b ha => ?_) (by omega)⟩
      · rw [h5 _ _ (by omega) (by omega) (by omega) (by omega) (by omega) (by omega) (by omega) (by omega), e1, zst_56v, eb]
      · rw [h5 _ _ (by omega) (by omega) (by omega) (by omega) (by omega) (by omega) (by omega) (by omega), e1, zst_56 (by omega)]
  · rw [e1] at h2
    rcases h2 with ⟨-, rfl⟩ | ⟨g1, -⟩
    · exact ⟨zst_f, fun q => absurd q (by decide), LwE.refuse hR hN⟩
    · exact absurd g1 (by omega)
theorem fr_check {M M1 : Nat → Nat → Int32} {n : Nat} {per wk dl of : Nat → Nat} {k : Nat} {st ln tk : Nat → Nat} {md tm : Nat} {r : Int32}  (hR : RelS M M n per wk dl of k st ln tk md tm) (h1 : r = nI 0 ∧ (∃ v Mx, (md = 0 ∧ (v = nI 1 ∧ (∃ h My, sp_chk n per wk dl of k st ln tk h ∧ (∀ a b, a ≠ 13 → My a b = M a b) ∧ (∀ u, u < 240 → My 13 u = oI (sp_at st ln tk k u)) ∧ Mx = zSta My n h) ∨ v = nI 0 ∧ (∀ a b, a ≠ 13 → Mx a b = M a b) ∧ ¬ ∃ h, sp_chk n per wk dl of k st ln tk h)) ∧ M1 = zst Mx 56 0 v) ∨ r = nI 1 ∧ M1 = M ∧ md = 1) : RelS M M1 n per wk dl of k st ln tk md tm := by
  refine hR.hi (fun a0 c0 ha hb => ?_)
  have hn6 := hR.1.1
  rcases h1 with ⟨-, v, Mx, ⟨-, ⟨-, h, My, -, h3, -, rfl⟩ | ⟨-, h3, -⟩⟩, rfl⟩ | ⟨-, rfl, -⟩
  · rw [zst_56 (by omega), zSta_out hn6 (by omega) (by omega) (by omega)]; exact h3 _ _ (by omega)
  · rw [zst_56 (by omega)]; exact h3 _ _ (by omega)
  · rfl
theorem op_check {M M1 M2 : Nat → Nat → Int32} {n : Nat} {per wk dl of : Nat → Nat} {k : Nat} {st ln tk : Nat → Nat} {md tm N : Nat} {r b0 : Int32}  (hR : RelS M M n per wk dl of k st ln tk md tm) (hN : tm ≤ 500 * N)  (h1 : r = nI 0 ∧ (∃ v Mx, (md = 0 ∧ (v = nI 1 ∧ (∃ h My, sp_chk n per wk dl of k st ln tk h ∧ (∀ a b, a ≠ 13 → My a b = M a b) ∧ (∀ u, u < 240 → My 13 u = oI (sp_at st ln tk k u)) ∧ Mx = zSta My n h) ∨ v = nI 0 ∧ (∀ a b, a ≠ 13 → Mx a b = M a b) ∧ ¬ ∃ h, sp_chk n per wk dl of k st ln tk h)) ∧ M1 = zst Mx 56 0 v) ∨ r = nI 1 ∧ M1 = M ∧ md = 1) (h2 : md = 1 ∧ M2 = zst M1 38 0 (nI 1) ∨ md = 0 ∧ (¬ (∃ h, sp_chk n per wk dl of k st ln tk h) ∧ b0 = nI 0 ∧ M2 = zst M1 38 0 (nI 0) ∨ (∃ h, sp_chk n per wk dl of k st ln tk h) ∧ b0 = nI 1 ∧ M2 = zStY M1)) : M2 38 0 = r ∧ (r = nI 0 → M2 56 0 = b0) ∧ LwE M2 (N + 1) := by
  have hM := fr_check hR h1
  have hn6 := hR.1.1
  rcases h1 with ⟨rfl, v, Mx, ⟨hm0, h3⟩, e1⟩ | ⟨rfl, e1, hm1⟩
  · rcases h2 with ⟨g1, -⟩ | ⟨-, h5⟩
    · exact absurd g1 (by omega)
    · subst hm0
      rcases h3 with ⟨ev, h, My, hk, h6, h7, e0⟩ | ⟨ev, h6, hk⟩
      · rcases h5 with ⟨g1, -⟩ | ⟨-, eb, e2⟩
        · exact absurd ⟨h, hk⟩ g1
        · have o2 : ∀ a b, a < 38 ∨ 54 < a → M2 a b = M1 a b := fun a b ha => by rw [e2, zStY_ap, if_neg (by omega), if_neg (by omega), if_neg (by omega), if_neg (by omega), if_neg (by omega), if_neg (by omega)]
          have h0 := hM.start hk h6 h7
          rw [← e0, ← e2] at h0
          refine ⟨?_, fun _ => ?_, LwE.mk h0 (fun a b ha => ?_) (by omega)⟩
          · rw [e2, zStY_ap, if_neg (by omega), if_neg (by omega), if_neg (by omega), if_neg (by omega), if_neg (by omega), if_pos ⟨rfl, rfl⟩]
          · rw [o2 _ _ (by omega), e1, zst_56v, ev, eb]
          · rw [o2 _ _ (by omega), e1, zst_56 (by omega)]
      · rcases h5 with ⟨-, eb, e2⟩ | ⟨g1, -⟩
        · have hS : RelS Mx M2 n per wk dl of k st ln tk 0 tm := by
            rw [e2]
            exact (hM.fault (nI 0)).slots (fun a b _ _ _ _ _ _ _ h13 => h6 a b h13) (fun _ _ _ _ _ _ _ _ _ _ _ _ => rfl) (fun _ _ _ => rfl) (hM.2.2.1.keep (h6 _ _ (by omega)) (fun _ => h6 _ _ (by omega)) (fun _ => h6 _ _ (by omega)) (fun _ => h6 _ _ (by omega))) (hM.fault (nI 0)).2.2.2.1 hM.2.2.2.2.1
          refine ⟨by rw [e2, zst_f], fun _ => ?_, LwE.mk hS (fun a b ha => ?_) (by omega)⟩
          · rw [e2, zst_o (by omega), e1, zst_56v, ev, eb]
          · rw [e2, zst_o (by omega), e1, zst_56 (by omega)]
        · exact absurd g1 hk
  · rw [e1] at h2
    rcases h2 with ⟨-, rfl⟩ | ⟨g1, -⟩
    · exact ⟨zst_f, fun q => absurd q (by decide), LwE.refuse hR hN⟩
    · exact absurd g1 (by omega)
theorem fr_tick {M M1 : Nat → Nat → Int32} {n : Nat} {per wk dl of : Nat → Nat} {k : Nat} {st ln tk : Nat → Nat} {md tm : Nat} {r : Int32} {h : Nat} (hR : RelS M M n per wk dl of k st ln tk md tm) (h1 : r = nI 0 ∧ (∃ v Mx, (md = 1 ∧ Mx = (tkF n per wk of (fun x => sp_at st ln tk k x) h tm M).1 ∧ v = (tkF n per wk of (fun x => sp_at st ln tk k x) h tm M).2) ∧ M1 = zst Mx 56 0 v) ∨ r = nI 1 ∧ M1 = M ∧ md = 0) : RelS M M1 n per wk dl of k st ln tk md tm := by
  refine hR.hi (fun a0 c0 ha hb => ?_)
  have hn6 := hR.1.1
  rcases h1 with ⟨-, v, Mx, ⟨-, rfl, -⟩, rfl⟩ | ⟨-, rfl, -⟩
  · rw [zst_56 (by omega)]; exact tkF_out hn6 (fun t => hR.own _ t) (by omega) (by omega)
  · rfl
theorem op_tick {M M1 M2 : Nat → Nat → Int32} {n : Nat} {per wk dl of : Nat → Nat} {k : Nat} {st ln tk : Nat → Nat} {md tm N : Nat} {r b0 : Int32} {h : Nat} (hR : RelS M M n per wk dl of k st ln tk md tm) (hN : tm ≤ 500 * N) (hh : md = 1 → sp_rd n per h) (h1 : r = nI 0 ∧ (∃ v Mx, (md = 1 ∧ Mx = (tkF n per wk of (fun x => sp_at st ln tk k x) h tm M).1 ∧ v = (tkF n per wk of (fun x => sp_at st ln tk k x) h tm M).2) ∧ M1 = zst Mx 56 0 v) ∨ r = nI 1 ∧ M1 = M ∧ md = 0) (h2 : md = 0 ∧ M2 = zst M1 38 0 (nI 1) ∨ md = 1 ∧ M2 = (mdF n per wk of (fun x => sp_at st ln tk k x) h tm (zst M1 38 0 (nI 0))).1 ∧ b0 = (mdF n per wk of (fun x => sp_at st ln tk k x) h tm (zst M1 38 0 (nI 0))).2) : M2 38 0 = r ∧ (r = nI 0 → M2 56 0 = b0) ∧ LwE M2 (N + 1) := by
  have hM := fr_tick hR h1
  rcases h1 with ⟨rfl, v, Mx, ⟨hm1, e0, ev⟩, e1⟩ | ⟨rfl, e1, hm0⟩
  · rcases h2 with ⟨g1, -⟩ | ⟨-, e2, eb⟩
    · exact absurd g1 (by omega)
    · subst hm1
      obtain ⟨hS, ea⟩ := (hM.fault (nI 0)).tick (hh rfl)
      have o2 : ∀ a b, ¬ (a = 38 ∧ b = 4) → (a < 48 ∨ 54 < a) → M2 a b = zst M1 38 0 (nI 0) a b := fun a b h3 h4 => by rw [e2]; exact mdF_out h3 h4
      rw [← e0, ← e2] at hS
      refine ⟨?_, fun _ => ?_, LwE.mk hS (fun a b ha => ?_) (by omega)⟩
      · rw [o2 _ _ (by omega) (by omega), zst_f]
      · rw [o2 _ _ (by omega) (by omega), zst_o (by omega), e1, zst_56v, ev, eb]; exact ea
      · rw [o2 _ _ (by omega) (by omega), zst_o (by omega), e1, zst_56 (by omega)]
  · rw [e1] at h2
    rcases h2 with ⟨-, rfl⟩ | ⟨g1, -⟩
    · exact ⟨zst_f, fun q => absurd q (by decide), LwE.refuse hR hN⟩
    · exact absurd g1 (by omega)
theorem fr_ticks {M M1 : Nat → Nat → Int32} {n : Nat} {per wk dl of : Nat → Nat} {k : Nat} {st ln tk : Nat → Nat} {md tm : Nat} {r : Int32} {h : Nat} {x : Int32} (hR : RelS M M n per wk dl of k st ln tk md tm) (h1 : r = nI 0 ∧ (∃ v Mx, (md = 1 ∧ ∃ q, 1 ≤ q ∧ q ≤ 500 ∧ x = nI q ∧ Mx = (tkN n per wk of (fun x => sp_at st ln tk k x) h tm M q).1 ∧ v = nI (tkN n per wk of (fun x => sp_at st ln tk k x) h tm M q).2) ∧ M1 = zst Mx 56 0 v) ∨ r = nI 1 ∧ M1 = M ∧ md = 0 ∨ r = nI 2 ∧ M1 = M ∧ md = 1 ∧ ¬ (¬ x < nI 1 ∧ ¬ nI 500 < x)) : RelS M M1 n per wk dl of k st ln tk md tm := by
  refine hR.hi (fun a0 c0 ha hb => ?_)
  have hn6 := hR.1.1
  rcases h1 with ⟨-, v, Mx, ⟨-, q, -, -, -, rfl, -⟩, rfl⟩ | ⟨-, rfl, -⟩ | ⟨-, rfl, -⟩
  · rw [zst_56 (by omega)]; exact tkN_out hn6 (fun u t => hR.own u t) (by omega) (by omega)
  · rfl
  · rfl
theorem op_ticks {M M1 M2 : Nat → Nat → Int32} {n : Nat} {per wk dl of : Nat → Nat} {k : Nat} {st ln tk : Nat → Nat} {md tm N : Nat} {r b0 : Int32} {h : Nat} {x : Int32} (hR : RelS M M n per wk dl of k st ln tk md tm) (hN : tm ≤ 500 * N) (hh : md = 1 → sp_rd n per h) (h1 : r = nI 0 ∧ (∃ v Mx, (md = 1 ∧ ∃ q, 1 ≤ q ∧ q ≤ 500 ∧ x = nI q ∧ Mx = (tkN n per wk of (fun x => sp_at st ln tk k x) h tm M q).1 ∧ v = nI (tkN n per wk of (fun x => sp_at st ln tk k x) h tm M q).2) ∧ M1 = zst Mx 56 0 v) ∨ r = nI 1 ∧ M1 = M ∧ md = 0 ∨ r = nI 2 ∧ M1 = M ∧ md = 1 ∧ ¬ (¬ x < nI 1 ∧ ¬ nI 500 < x)) (h2 : md = 0 ∧ M2 = zst M1 38 0 (nI 1) ∨ md = 1 ∧ ¬ (¬ x < nI 1 ∧ ¬ nI 500 < x) ∧ M2 = zst M1 38 0 (nI 2) ∨ md = 1 ∧ ∃ q, 1 ≤ q ∧ q ≤ 500 ∧ x = nI q ∧ M2 = (mdN n per wk of (fun x => sp_at st ln tk k x) h tm (zst M1 38 0 (nI 0)) q).1 ∧ b0 = nI (mdN n per wk of (fun x => sp_at st ln tk k x) h tm (zst M1 38 0 (nI 0)) q).2) : M2 38 0 = r ∧ (r = nI 0 → M2 56 0 = b0) ∧ LwE M2 (N + 1) := by
  have hM := fr_ticks hR h1
  have rng : ∀ q : Nat, 1 ≤ q → q ≤ 500 → ¬ nI q < nI 1 ∧ ¬ nI 500 < nI q := fun q h3 h4 => ⟨nI_nlt h3 (by omega), nI_nlt h4 (by decide)⟩
  rcases h1 with ⟨rfl, v, Mx, ⟨hm1, q, u1, u2, hx, e0, ev⟩, e1⟩ | ⟨rfl, e1, hm0⟩ | ⟨rfl, e1, hm1, hx⟩
  · rcases h2 with ⟨g1, -⟩ | ⟨-, g2, -⟩ | ⟨-, q', v1, v2, hx', e2, eb⟩
    · exact absurd g1 (by omega)
    · exact absurd (by rw [hx]; exact rng q u1 u2) g2
    · subst hm1
      have eq := nI_uq hx hx' (by omega) (by omega)
      subst eq
      obtain ⟨hS, ea⟩ := (hM.fault (nI 0)).ticks (hh rfl) q
      have o2 : ∀ a b, ¬ (a = 38 ∧ b = 4) → (a < 48 ∨ 54 < a) → M2 a b = zst M1 38 0 (nI 0) a b := fun a b h3 h4 => by rw [e2]; exact mdN_out h3 h4
      rw [← e0, ← e2] at hS
      refine ⟨?_, fun _ => ?_, LwE.mk hS (fun a b ha => ?_) (by omega)⟩
      · rw [o2 _ _ (by omega) (by omega), zst_f]
      · rw [o2 _ _ (by omega) (by omega), zst_o (by omega), e1, zst_56v, ev, eb, ea]
      · rw [o2 _ _ (by omega) (by omega), zst_o (by omega), e1, zst_56 (by omega)]
  · rw [e1] at h2
    rcases h2 with ⟨-, rfl⟩ | ⟨g1, -⟩ | ⟨g1, -⟩
    · exact ⟨zst_f, fun q => absurd q (by decide), LwE.refuse hR hN⟩
    · exact absurd g1 (by omega)
    · exact absurd g1 (by omega)
  · rw [e1] at h2
    rcases h2 with ⟨g1, -⟩ | ⟨-, -, rfl⟩ | ⟨-, q', v1, v2, hx', -⟩
    · exact absurd g1 (by omega)
    · exact ⟨zst_f, fun q => absurd q (by decide), LwE.refuse hR hN⟩
    · exact absurd (by rw [hx']; exact rng q' v1 v2) hx
end OPS
