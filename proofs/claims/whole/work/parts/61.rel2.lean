section REL2
variable {Mc Mm Mc' Mm' M M1 M2 : Nat → Nat → Int32} {n : Nat} {per wk dl of : Nat → Nat} {k : Nat} {st ln tk : Nat → Nat} {md tm : Nat}
theorem sp_rd_uq {h g : Nat} (h1 : sp_rd n per h) (h2 : sp_rd n per g) : h = g := by
  obtain ⟨a1, a2, a3, a4⟩ := h1
  obtain ⟨b1, b2, b3, b4⟩ := h2
  rcases Nat.lt_trichotomy h g with q | q | q
  · exact absurd a3 (b4 h a1 q)
  · exact q
  · exact absurd b3 (a4 g b1 q)
theorem sp_rd_no {h : Nat} (h1 : sp_rd n per h) (h2 : sp_no n per) : False := h2 h h1.1 h1.2.1 h1.2.2.1
/-- the i-th slot of a list that grows at its head -/
def bsE : List (Nat × Nat × Nat) → Nat → Nat × Nat × Nat
  | [], _ => (0, 0, 0)
  | q :: r, i => if i = r.length then q else bsE r i
theorem bsE_in {L : List (Nat × Nat × Nat)} {i : Nat} (h : i < L.length) : bsE L i ∈ L := by
  induction L with
  | nil => exact absurd h (Nat.not_lt_zero _)
  | cons q r ih =>
    show (if i = r.length then q else bsE r i) ∈ q :: r
    by_cases e : i = r.length
    · rw [if_pos e]; exact List.mem_cons_self
    · rw [if_neg e]; exact List.mem_cons_of_mem _ (ih (by rw [List.length_cons] at h; omega))
theorem bsR_at {k4 k5 k6 : Nat} {L : List (Nat × Nat × Nat)} (hb : bsR M k4 k5 k6 L) {i : Nat} (h : i < L.length) : M k4 i = nI (bsE L i).1 ∧ M k5 i = nI (bsE L i).2.1 ∧ M k6 i = nI (bsE L i).2.2 := by
  induction L with
  | nil => exact absurd h (Nat.not_lt_zero _)
  | cons q r ih =>
    obtain ⟨h1, h2, h3, h4⟩ := hb
    show M k4 i = nI (if i = r.length then q else bsE r i).1 ∧ M k5 i = nI (if i = r.length then q else bsE r i).2.1 ∧ M k6 i = nI (if i = r.length then q else bsE r i).2.2
    by_cases e : i = r.length
    · rw [if_pos e, e]; exact ⟨h1, h2, h3⟩
    · rw [if_neg e]; exact ih h4 (by rw [List.length_cons] at h; omega)
theorem bs_bd {g : Nat → Option Nat} (hg : ∀ x t, g x = some t → t < n) (x : Nat) : ∀ q ∈ bs g x, q.1 + q.2.1 ≤ x ∧ 1 ≤ q.2.1 ∧ q.2.2 < n := by
  induction x with
  | zero => intro q hq; exact absurd hq List.not_mem_nil
  | succ x ih =>
    intro q hq
    cases e : g x with
    | none =>
      rw [bs_none e] at hq
      have := ih q hq
      exact ⟨by omega, this.2.1, this.2.2⟩
    | some t =>
      by_cases c : 0 < x ∧ g (x - 1) = some t
      · cases e2 : bs g x with
        | nil =>
          exfalso
          have e3 : x - 1 + 1 = x := by omega
          have := bs_ne (g := g) (x := x - 1) c.2
          rw [e3] at this
          exact this e2
        | cons q0 r =>
          rw [bs_ext e c.1 c.2 e2] at hq
          have h0 := ih q0 (by rw [e2]; exact List.mem_cons_self)
          rcases List.mem_cons.mp hq with rfl | hq
          · dsimp only
            exact ⟨by omega, by omega, h0.2.2⟩
          · have := ih q (by rw [e2]; exact List.mem_cons_of_mem _ hq)
            exact ⟨by omega, this.2.1, this.2.2⟩
      · rw [bs_new e c] at hq
        rcases List.mem_cons.mp hq with rfl | hq
        · dsimp only
          exact ⟨by omega, by omega, hg x t e⟩
        · have := ih q hq
          exact ⟨by omega, this.2.1, this.2.2⟩
theorem sp_syn_same {r r' sz sz' : Int32} {a4 a5 a6 b4 b5 b6 : Nat} (h1 : sp_syn n per wk dl of r sz M1 a4 a5 a6) (h2 : sp_syn n per wk dl of r' sz' M2 b4 b5 b6) : r = r' ∧ ∃ L : List (Nat × Nat × Nat), sz = nI L.length ∧ sz' = nI L.length ∧ L.length ≤ 60 ∧ bsR M1 a4 a5 a6 L ∧ bsR M2 b4 b5 b6 L ∧ ∀ q ∈ L, q.1 < 240 ∧ 1 ≤ q.2.1 ∧ q.2.1 ≤ 240 ∧ q.2.2 < n := by
  have e0 : ∀ q ∈ ([] : List (Nat × Nat × Nat)), q.1 < 240 ∧ 1 ≤ q.2.1 ∧ q.2.1 ≤ 240 ∧ q.2.2 < n := fun q hq => absurd hq List.not_mem_nil
  rcases h1 with ⟨p1, p2, p3⟩ | ⟨h, p1, p2⟩
  · rcases h2 with ⟨q1, q2, q3⟩ | ⟨g, q1, q2⟩
    · exact ⟨p2.trans q2.symm, [], p3, q3, by decide, trivial, trivial, e0⟩
    · exact (sp_rd_no q1 p1).elim
  · rcases h2 with ⟨q1, q2, q3⟩ | ⟨g, q1, q2⟩
    · exact (sp_rd_no p1 q1).elim
    · have e := sp_rd_uq q1 p1
      subst e
      rcases p2 with ⟨u1, u2, u3⟩ | ⟨u1, u2, u3, u4⟩ | ⟨u1, u2, u3, u4, u5⟩
      · rcases q2 with ⟨v1, v2, v3⟩ | ⟨v1, v2, v3, v4⟩ | ⟨v1, v2, v3, v4, v5⟩
        · exact ⟨u2.trans v2.symm, [], u3, v3, by decide, trivial, trivial, e0⟩
        · exact absurd v1 u1
        · exact absurd v1 u1
      · rcases q2 with ⟨v1, v2, v3⟩ | ⟨v1, v2, v3, v4⟩ | ⟨v1, v2, v3, v4, v5⟩
        · exact absurd u1 v1
        · exact ⟨u3.trans v3.symm, [], u4, v4, by decide, trivial, trivial, e0⟩
        · exact absurd v2 u2
      · rcases q2 with ⟨v1, v2, v3⟩ | ⟨v1, v2, v3, v4⟩ | ⟨v1, v2, v3, v4, v5⟩
        · exact absurd u1 v1
        · exact absurd u2 v2
        · refine ⟨u3.trans v3.symm, _, u4, v4, u2, u5, v5, fun q hq => ?_⟩
          have := bs_bd (n := n) (g := pl_g n per wk dl of g) (fun x t hx => (pl_pk_lt hx).1) g q hq
          have := q1.2.1
          exact ⟨by omega, by omega, by omega, by omega⟩
theorem RelS.syn {r r' : Int32} (h : RelS Mc Mm n per wk dl of k st ln tk 0 tm) (hc : ∀ a b, a ≠ 3 → a ≠ 4 → a ≠ 5 → a ≠ 6 → a ≠ 8 → a ≠ 9 → a ≠ 13 → Mc' a b = Mc a b) (h1 : sp_syn n per wk dl of r (Mc' 3 0) Mc' 4 5 6)
    (hm : ∀ a b, a ≠ 38 → a ≠ 44 → a ≠ 45 → a ≠ 46 → a ≠ 49 → a ≠ 50 → a ≠ 51 → a ≠ 55 → Mm' a b = Mm a b) (hm8 : ∀ b, b ≠ 0 → b ≠ 3 → Mm' 38 b = Mm 38 b) (h2 : sp_syn n per wk dl of r' (Mm' 38 3) Mm' 44 45 46) : r = r' ∧ ∃ k' st' ln' tk', RelS Mc' Mm' n per wk dl of k' st' ln' tk' 0 tm := by
  obtain ⟨e, L, u1, u2, u3, u4, u5, u6⟩ := sp_syn_same h1 h2
  have hn6 := h.1.1
  refine ⟨e, L.length, fun i => (bsE L i).1, fun i => (bsE L i).2.1, fun i => (bsE L i).2.2, h.slots (fun a b _ g3 g4 g5 g6 g8 g9 g13 => hc a b g3 g4 g5 g6 g8 g9 g13) (fun a b _ _ g1 g2 g3 g4 g5 g6 g7 g8 => hm a b g1 g2 g3 g4 g5 g6 g7 g8) hm8 ⟨u1, u3, fun i hi => ?_⟩ ⟨u2, u3, fun i hi => ?_⟩ (fun i hi => ?_)⟩
  · have w1 := bsR_at u4 hi
    have w2 := u6 _ (bsE_in hi)
    exact ⟨w1.1, w1.2.1, w1.2.2, w2.1, w2.2.1, w2.2.2.1, Nat.lt_of_lt_of_le w2.2.2.2 hn6⟩
  · have w1 := bsR_at u5 hi
    have w2 := u6 _ (bsE_in hi)
    exact ⟨w1.1, w1.2.1, w1.2.2, w2.1, w2.2.1, w2.2.2.1, Nat.lt_of_lt_of_le w2.2.2.2 hn6⟩
  · exact (u6 _ (bsE_in hi)).2.2.2
theorem zForN_in {i t : Nat} (hi : i ≤ 6) (ht : t < i) : zForN M i (20 + t) 3 = nI 0 ∧ ∀ j, j < 4 → zForN M i (32 + t) j = nI 0 := by
  induction i with
  | zero => exact absurd ht (Nat.not_lt_zero _)
  | succ i ih =>
    show zFor (zForN M i) i (20 + t) 3 = nI 0 ∧ ∀ j, j < 4 → zFor (zForN M i) i (32 + t) j = nI 0
    by_cases e : t = i
    · subst e
      unfold zFor
      refine ⟨by rw [zfl_ap, if_neg (by omega), zst_ap, if_pos ⟨rfl, rfl⟩], fun j hj => by rw [zfl_ap, if_pos ⟨rfl, hj⟩]⟩
    · have := ih (by omega) (by omega)
      exact ⟨(zFor_out (by omega) (by omega)).trans this.1, fun j hj => (zFor_out (by omega) (by omega)).trans (this.2 j hj)⟩
theorem zSta_out {h a b : Nat} (hn : n ≤ 6) (ha : a ≠ 0) (ha2 : a ≠ 12) (ha3 : a < 20 ∨ (26 ≤ a ∧ a < 32) ∨ 38 ≤ a) : zSta M n h a b = M a b := by
  unfold zSta
  rw [zForN_out hn ha3, zfl_ap, if_neg (by omega), zst_ap, if_neg (by omega), zst_ap, if_neg (by omega), zst_ap, if_neg (by omega)]
theorem zSta_0 {h b : Nat} (hn : n ≤ 6) : zSta M n h 0 b = if b = 2 then nI 0 else if b = 1 then nI h else if b = 0 then nI 1 else M 0 b := by
  unfold zSta
  rw [zForN_out hn (by omega), zfl_ap, if_neg (by omega), zst_ap, zst_ap, zst_ap]
  by_cases h2 : b = 2
  · rw [if_pos ⟨rfl, h2⟩, if_pos h2]
  · rw [if_neg (fun z => h2 z.2), if_neg h2]
    by_cases h1 : b = 1
    · rw [if_pos ⟨rfl, h1⟩, if_pos h1]
    · rw [if_neg (fun z => h1 z.2), if_neg h1]
      by_cases h0 : b = 0
      · rw [if_pos ⟨rfl, h0⟩, if_pos h0]
      · rw [if_neg (fun z => h0 z.2), if_neg h0]
theorem zStY_ap {a b : Nat} : zStY M a b = if a = 49 ∧ b < 6 then nI 0 else if a = 54 ∧ b < 24 then nI 0 else if a = 48 ∧ b < 16 then nI 0 else if a = 38 ∧ b = 4 then nI 0 else if a = 38 ∧ b = 1 then nI 1 else if a = 38 ∧ b = 0 then nI 0 else M a b := by
  unfold zStY
  rw [zfl_ap, zfl_ap, zfl_ap, zst_ap, zst_ap, zst_ap]
theorem RelS.start {h : Nat} (hR : RelS Mc Mm n per wk dl of k st ln tk 0 tm) (hk : sp_chk n per wk dl of k st ln tk h) (hc : ∀ a b, a ≠ 13 → Mc' a b = Mc a b) (ho : ∀ u, u < 240 → Mc' 13 u = oI (sp_at st ln tk k u)) : RelS (zSta Mc' n h) (zStY Mm) n per wk dl of k st ln tk 1 0 := by
  obtain ⟨a1, a2, a3, a4, a5, a6, ⟨b1, b2, b3⟩, ⟨c1, c2, c3⟩, ⟨d1, d2⟩, e1⟩ := hR
  have hn6 := a1.1
  have qc : ∀ a b, a ≠ 0 → a ≠ 12 → a ≠ 13 → (a < 20 ∨ (26 ≤ a ∧ a < 32) ∨ 38 ≤ a) → zSta Mc' n h a b = Mc a b := fun a b g1 g2 g3 g4 => (zSta_out hn6 g1 g2 g4).trans (hc a b g3)
  have qm : ∀ a b, a ≠ 49 → a ≠ 54 → a ≠ 48 → ¬ (a = 38 ∧ (b = 4 ∨ b = 1 ∨ b = 0)) → zStY Mm a b = Mm a b := fun a b g1 g2 g3 g4 => by rw [zStY_ap, if_neg (by omega), if_neg (by omega), if_neg (by omega), if_neg (by omega), if_neg (by omega), if_neg (by omega)]
  refine ⟨a1.keep (qc _ _ (by omega) (by omega) (by omega) (by omega)) (fun t j ht => qc _ _ (by omega) (by omega) (by omega) (by omega)), a2.keep (qm _ _ (by omega) (by omega) (by omega) (by omega)) (fun a j _ _ => qm _ _ (by omega) (by omega) (by omega) (by omega)), a3.keep (qc _ _ (by omega) (by omega) (by omega) (by omega)) (fun _ => qc _ _ (by omega) (by omega) (by omega) (by omega)) (fun _ => qc _ _ (by omega) (by omega) (by omega) (by omega)) (fun _ => qc _ _ (by omega) (by omega) (by omega) (by omega)), a4.keep (qm _ _ (by omega) (by omega) (by omega) (by omega)) (fun a j _ _ => qm _ _ (by omega) (by omega) (by omega) (by omega)), a5, ?_, ⟨?_, ?_, ?_⟩, ⟨?_, ?_, by omega⟩, ⟨?_, ?_⟩, fun _ => ⟨h, hk.1, ?_, ?_, ?_⟩⟩
  · intro t ht
    obtain ⟨e, f1, f2, f3⟩ := a6 t ht
    exact ⟨e, f1, (qc _ _ (by omega) (by omega) (by omega) (by omega)).trans f2, (qm _ _ (by omega) (by omega) (by omega) (by omega)).trans f3⟩
  · intro i hi
    rw [qc _ _ (by omega) (by omega) (by omega) (by omega), qm _ _ (by omega) (by omega) (by omega) (by omega)]; exact b1 i hi
  · intro i hi
    rw [zStY_ap, if_neg (by omega), if_neg (by omega), if_pos ⟨rfl, hi⟩]
    unfold zSta
    rw [zForN_out hn6 (by omega), zfl_ap, if_pos ⟨rfl, hi⟩]
  · intro t ht i hi
    rw [zStY_ap, if_neg (by omega), if_pos (by omega)]
    exact (zForN_in hn6 ht).2 i hi
  · rw [zSta_0 hn6, if_neg (by omega), if_neg (by omega), if_pos rfl]
  · rw [zStY_ap, if_neg (by omega), if_neg (by omega), if_neg (by omega), if_neg (by omega), if_pos (by omega)]
  · rw [zSta_0 hn6, if_pos rfl]
  · rw [zStY_ap, if_neg (by omega), if_neg (by omega), if_neg (by omega), if_pos (by omega)]
  · rw [zSta_0 hn6, if_neg (by omega), if_pos rfl]
  · intro u hu
    rw [zSta_out hn6 (by omega) (by omega) (by omega)]
    exact ho u (by have := hk.1.2.1; omega)
  · intro t ht
    exact Or.inl ⟨(zForN_in hn6 ht).1, by rw [zStY_ap, if_pos (by omega)]⟩
end REL2
