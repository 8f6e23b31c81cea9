/-- a task's job, on the first side and on the second -/
def jobR (Mc Mm : Nat → Nat → Int32) (t w : Nat) : Prop := (Mc (20 + t) 3 = nI 0 ∧ Mm 49 t = nI 0) ∨ (Mc (20 + t) 3 = nI 1 ∧ Mm 49 t = nI 1 ∧ ∃ pl hd, pl < 64 ∧ hd < w ∧ Mc (20 + t) 0 = nI pl ∧ Mm 52 t = nI pl ∧ Mc (20 + t) 1 = nI hd ∧ Mm 51 t = nI hd ∧ Mc (20 + t) 2 = Mm 50 t ∧ ∀ j, j < 4 → Mc (26 + t) j = Mm 53 (4 * t + j))
def runR (Mc Mm : Nat → Nat → Int32) (n : Nat) (per wk : Nat → Nat) (k : Nat) (st ln tk : Nat → Nat) : Prop := ∃ h, sp_rd n per h ∧ Mc 0 1 = nI h ∧ (∀ u, u < h → Mc 13 u = oI (sp_at st ln tk k u)) ∧ ∀ t, t < n → jobR Mc Mm t (wk t)
def relF (Mc Mm : Nat → Nat → Int32) (n : Nat) : Prop := ∀ t, t < n → ∃ e, e < 64 ∧ Mc (14 + t) 4 = nI e ∧ Mm 43 t = nI e
def relA (Mc Mm : Nat → Nat → Int32) (n : Nat) : Prop := (∀ j, j < 64 → Mc 11 j = Mm 47 j) ∧ (∀ j, j < 16 → Mc 12 j = Mm 48 j) ∧ ∀ t, t < n → ∀ j, j < 4 → Mc (32 + t) j = Mm 54 (4 * t + j)
/-- the first side's rows of Mc say what the second side's rows of Mm say -/
def RelS (Mc Mm : Nat → Nat → Int32) (n : Nat) (per wk dl of : Nat → Nat) (k : Nat) (st ln tk : Nat → Nat) (md tm : Nat) : Prop :=
  tkOK Mc n per wk dl of ∧ tmOK Mm n per wk dl of ∧ slOK Mc k st ln tk ∧ smOK Mm k st ln tk ∧ (∀ i, i < k → tk i < n) ∧ relF Mc Mm n ∧ relA Mc Mm n ∧ (Mc 0 0 = nI md ∧ Mm 38 1 = nI md ∧ md ≤ 1) ∧ (Mc 0 2 = nI tm ∧ Mm 38 4 = nI tm) ∧ (md = 1 → runR Mc Mm n per wk k st ln tk)
section REL
variable {Mc Mm Mc' Mm' M M1 M2 : Nat → Nat → Int32} {n : Nat} {per wk dl of : Nat → Nat} {k : Nat} {st ln tk : Nat → Nat} {md tm : Nat}
theorem jobR.congr {t w : Nat} (ht : t < 6) (h : jobR Mc Mm t w) (h1 : ∀ a b, a < 38 → Mc' a b = Mc a b) (h2 : ∀ a b, 38 ≤ a → a < 56 → Mm' a b = Mm a b) : jobR Mc' Mm' t w := by
  rcases h with ⟨q1, q2⟩ | ⟨q1, q2, pl, hd, q3, q4, q5, q6, q7, q8, q9, q0⟩
  · exact Or.inl ⟨(h1 _ _ (by omega)).trans q1, (h2 _ _ (by omega) (by omega)).trans q2⟩
  · exact Or.inr ⟨(h1 _ _ (by omega)).trans q1, (h2 _ _ (by omega) (by omega)).trans q2, pl, hd, q3, q4, (h1 _ _ (by omega)).trans q5, (h2 _ _ (by omega) (by omega)).trans q6, (h1 _ _ (by omega)).trans q7, (h2 _ _ (by omega) (by omega)).trans q8, by rw [h1 _ _ (by omega), h2 _ _ (by omega) (by omega)]; exact q9, fun j hj => by rw [h1 _ _ (by omega), h2 _ _ (by omega) (by omega)]; exact q0 j hj⟩
theorem RelS.congr (h : RelS Mc Mm n per wk dl of k st ln tk md tm) (h1 : ∀ a b, a < 38 → Mc' a b = Mc a b) (h2 : ∀ a b, 38 ≤ a → a < 56 → Mm' a b = Mm a b) : RelS Mc' Mm' n per wk dl of k st ln tk md tm := by
  obtain ⟨a1, a2, a3, a4, a5, a6, ⟨b1, b2, b3⟩, ⟨c1, c2, c3⟩, ⟨d1, d2⟩, e1⟩ := h
  have hn6 := a1.1
  refine ⟨a1.keep (h1 _ _ (by omega)) (fun t j ht => h1 _ _ (by omega)), a2.keep (h2 _ _ (by omega) (by omega)) (fun a j _ _ => h2 _ _ (by omega) (by omega)), a3.keep (h1 _ _ (by omega)) (fun _ => h1 _ _ (by omega)) (fun _ => h1 _ _ (by omega)) (fun _ => h1 _ _ (by omega)), a4.keep (h2 _ _ (by omega) (by omega)) (fun a j _ _ => h2 _ _ (by omega) (by omega)), a5, ?_, ⟨?_, ?_, ?_⟩, ⟨(h1 _ _ (by omega)).trans c1, (h2 _ _ (by omega) (by omega)).trans c2, c3⟩, ⟨(h1 _ _ (by omega)).trans d1, (h2 _ _ (by omega) (by omega)).trans d2⟩, ?_⟩
  · intro t ht
    obtain ⟨e, f1, f2, f3⟩ := a6 t ht
    exact ⟨e, f1, (h1 _ _ (by omega)).trans f2, (h2 _ _ (by omega) (by omega)).trans f3⟩
  · intro j hj
    rw [h1 _ _ (by omega), h2 _ _ (by omega) (by omega)]; exact b1 j hj
  · intro j hj
    rw [h1 _ _ (by omega), h2 _ _ (by omega) (by omega)]; exact b2 j hj
  · intro t ht j hj
    rw [h1 _ _ (by omega), h2 _ _ (by omega) (by omega)]; exact b3 t ht j hj
  · intro h9
    obtain ⟨h, f1, f2, f3, f4⟩ := e1 h9
    exact ⟨h, f1, (h1 _ _ (by omega)).trans f2, fun u hu => (h1 _ _ (by omega)).trans (f3 u hu), fun t ht => (f4 t ht).congr (by omega) h1 h2⟩
theorem RelS.fault (h : RelS Mc Mm n per wk dl of k st ln tk md tm) (v : Int32) : RelS Mc (zst Mm 38 0 v) n per wk dl of k st ln tk md tm := by
  obtain ⟨a1, a2, a3, a4, a5, a6, ⟨b1, b2, b3⟩, ⟨c1, c2, c3⟩, ⟨d1, d2⟩, e1⟩ := h
  have hz : ∀ a b, ¬ (a = 38 ∧ b = 0) → zst Mm 38 0 v a b = Mm a b := fun a b q => by rw [zst_ap, if_neg q]
  refine ⟨a1, a2.keep (hz _ _ (by omega)) (fun a j _ _ => hz _ _ (by omega)), a3, a4.keep (hz _ _ (by omega)) (fun a j _ _ => hz _ _ (by omega)), a5, ?_, ⟨?_, ?_, ?_⟩, ⟨c1, (hz _ _ (by omega)).trans c2, c3⟩, ⟨d1, (hz _ _ (by omega)).trans d2⟩, ?_⟩
  · intro t ht
    obtain ⟨e, f1, f2, f3⟩ := a6 t ht
    exact ⟨e, f1, f2, (hz _ _ (by omega)).trans f3⟩
  · intro j hj
    rw [hz _ _ (by omega)]; exact b1 j hj
  · intro j hj
    rw [hz _ _ (by omega)]; exact b2 j hj
  · intro t ht j hj
    rw [hz _ _ (by omega)]; exact b3 t ht j hj
  · intro h9
    obtain ⟨h, f1, f2, f3, f4⟩ := e1 h9
    refine ⟨h, f1, f2, f3, fun t ht => ?_⟩
    rcases f4 t ht with ⟨q1, q2⟩ | ⟨q1, q2, pl, hd, q3, q4, q5, q6, q7, q8, q9, q0⟩
    · exact Or.inl ⟨q1, (hz _ _ (by omega)).trans q2⟩
    · exact Or.inr ⟨q1, (hz _ _ (by omega)).trans q2, pl, hd, q3, q4, q5, (hz _ _ (by omega)).trans q6, q7, (hz _ _ (by omega)).trans q8, by rw [hz _ _ (by omega)]; exact q9, fun j hj => by rw [hz _ _ (by omega)]; exact q0 j hj⟩
theorem RelS.rn (h : RelS Mc Mm n per wk dl of k st ln tk md tm) (h1 : md = 1) : ∃ hh, sp_rd n per hh ∧ rnOK Mc n per wk dl of (fun x => sp_at st ln tk k x) hh tm ∧ rmOK Mm n per wk dl of k st ln tk hh tm := by
  obtain ⟨a1, a2, a3, a4, a5, a6, ⟨b1, b2, b3⟩, ⟨c1, c2, c3⟩, ⟨d1, d2⟩, e1⟩ := h
  obtain ⟨hh, f1, f2, f3, f4⟩ := e1 h1
  have own : ∀ u t, sp_at st ln tk k u = some t → t < n := fun u t q => by
    obtain ⟨j, hj, e⟩ := sp_at_in q
    rw [← e]; exact a5 j hj
  refine ⟨hh, f1, ⟨a1, d1, f2, f1.1, f1.2.1, fun u hu => ⟨f3 u hu, fun t q => own u t q⟩, ?_, ?_⟩, ⟨a2, a4, d2, f1, own, ?_, ?_⟩⟩
  · intro t ht
    rcases f4 t ht with ⟨q1, q2⟩ | ⟨q1, q2, pl, hd, q3, q4, q5, q6, q7, q8, q9, q0⟩
    · exact Or.inl q1
    · exact Or.inr ⟨q1, pl, hd, q3, q4, q5, q7⟩
  · intro t ht
    obtain ⟨e, g1, g2, g3⟩ := a6 t ht
    exact ⟨e, g1, g2⟩
  · intro t ht
    rcases f4 t ht with ⟨q1, q2⟩ | ⟨q1, q2, pl, hd, q3, q4, q5, q6, q7, q8, q9, q0⟩
    · exact Or.inl q2
    · exact Or.inr ⟨q2, pl, hd, q3, q4, q6, q8⟩
  · intro t ht
    obtain ⟨e, g1, g2, g3⟩ := a6 t ht
    exact ⟨e, g1, g3⟩
/-- two sides of one memory: the first side's step, then the second's -/
theorem RelS.back (h : RelS M1 Mm n per wk dl of k st ln tk md tm) (h1 : ∀ a b, a < 38 → M2 a b = M1 a b) (h2 : ∀ a b, 38 ≤ a → a < 56 → M2 a b = Mm a b) : RelS M2 M2 n per wk dl of k st ln tk md tm := h.congr h1 h2
theorem xr_in {j b : Nat} (h : j < b) (hb : b < 2 ^ 31) : ¬ nI j < 0 ∧ nI j < nI b := ⟨nI_pos (by omega), nI_lt h hb⟩
theorem RelS.load (h : RelS Mc Mm n per wk dl of k st ln tk 0 tm) {j : Nat} {v : Int32} : RelS (zst Mc 11 j v) (zst Mm 47 j v) n per wk dl of k st ln tk 0 tm := by
  obtain ⟨a1, a2, a3, a4, a5, a6, ⟨b1, b2, b3⟩, ⟨c1, c2, c3⟩, ⟨d1, d2⟩, e1⟩ := h
  have hc : ∀ a b, a ≠ 11 → zst Mc 11 j v a b = Mc a b := fun a b q => by rw [zst_ap, if_neg (by omega)]
  have hm : ∀ a b, a ≠ 47 → zst Mm 47 j v a b = Mm a b := fun a b q => by rw [zst_ap, if_neg (by omega)]
  have hn6 := a1.1
  refine ⟨a1.keep (hc _ _ (by omega)) (fun t j ht => hc _ _ (by omega)), a2.keep (hm _ _ (by omega)) (fun a j _ _ => hm _ _ (by omega)), a3.keep (hc _ _ (by omega)) (fun _ => hc _ _ (by omega)) (fun _ => hc _ _ (by omega)) (fun _ => hc _ _ (by omega)), a4.keep (hm _ _ (by omega)) (fun a j _ _ => hm _ _ (by omega)), a5, ?_, ⟨?_, ?_, ?_⟩, ⟨(hc _ _ (by omega)).trans c1, (hm _ _ (by omega)).trans c2, c3⟩, ⟨(hc _ _ (by omega)).trans d1, (hm _ _ (by omega)).trans d2⟩, fun q => absurd q (by decide)⟩
  · intro t ht
    obtain ⟨e, f1, f2, f3⟩ := a6 t ht
    exact ⟨e, f1, (hc _ _ (by omega)).trans f2, (hm _ _ (by omega)).trans f3⟩
  · intro i hi
    rw [zst_ap, zst_ap]
    by_cases q : i = j
    · rw [if_pos ⟨rfl, q⟩, if_pos ⟨rfl, q⟩]
    · rw [if_neg (fun z => q z.2), if_neg (fun z => q z.2)]; exact b1 i hi
  · intro i hi
    rw [hc _ _ (by omega), hm _ _ (by omega)]; exact b2 i hi
  · intro t ht i hi
    rw [hc _ _ (by omega), hm _ _ (by omega)]; exact b3 t ht i hi
theorem RelS.entry (h : RelS Mc Mm n per wk dl of k st ln tk 0 tm) {j x : Nat} (hj : j < n) (hx : x < 64) : RelS (zst Mc (14 + j) 4 (nI x)) (zst Mm 43 j (nI x)) n per wk dl of k st ln tk 0 tm := by
  obtain ⟨a1, a2, a3, a4, a5, a6, ⟨b1, b2, b3⟩, ⟨c1, c2, c3⟩, ⟨d1, d2⟩, e1⟩ := h
  have hc : ∀ a b, ¬ (a = 14 + j ∧ b = 4) → zst Mc (14 + j) 4 (nI x) a b = Mc a b := fun a b q => by rw [zst_ap, if_neg q]
  have hm : ∀ a b, a ≠ 43 → zst Mm 43 j (nI x) a b = Mm a b := fun a b q => by rw [zst_ap, if_neg (by omega)]
  have hn6 := a1.1
  refine ⟨⟨a1.1, (hc _ _ (by omega)).trans a1.2.1, fun t ht => ?_⟩, a2.keep (hm _ _ (by omega)) (fun a j _ _ => hm _ _ (by omega)), a3.keep (hc _ _ (by omega)) (fun _ => hc _ _ (by omega)) (fun _ => hc _ _ (by omega)) (fun _ => hc _ _ (by omega)), a4.keep (hm _ _ (by omega)) (fun a j _ _ => hm _ _ (by omega)), a5, ?_, ⟨?_, ?_, ?_⟩, ⟨(hc _ _ (by omega)).trans c1, (hm _ _ (by omega)).trans c2, c3⟩, ⟨(hc _ _ (by omega)).trans d1, (hm _ _ (by omega)).trans d2⟩, fun q => absurd q (by decide)⟩
  · rw [hc _ _ (by omega), hc _ _ (by omega), hc _ _ (by omega), hc _ _ (by omega)]; exact a1.2.2 t ht
  · intro t ht
    by_cases q : t = j
    · subst q
      exact ⟨x, hx, by rw [zst_ap, if_pos ⟨rfl, rfl⟩], by rw [zst_ap, if_pos ⟨rfl, rfl⟩]⟩
    · obtain ⟨e, f1, f2, f3⟩ := a6 t ht
      exact ⟨e, f1, (hc _ _ (by omega)).trans f2, by rw [zst_ap, if_neg (fun z => q z.2)]; exact f3⟩
  · intro i hi
    rw [hc _ _ (by omega), hm _ _ (by omega)]; exact b1 i hi
  · intro i hi
    rw [hc _ _ (by omega), hm _ _ (by omega)]; exact b2 i hi
  · intro t ht i hi
    rw [hc _ _ (by omega), hm _ _ (by omega)]; exact b3 t ht i hi
theorem RelS.stop (h : RelS Mc Mm n per wk dl of k st ln tk md tm) : RelS (zst Mc 0 0 (nI 0)) (zst Mm 38 1 (nI 0)) n per wk dl of k st ln tk 0 tm := by
  obtain ⟨a1, a2, a3, a4, a5, a6, ⟨b1, b2, b3⟩, ⟨c1, c2, c3⟩, ⟨d1, d2⟩, e1⟩ := h
  have hc : ∀ a b, ¬ (a = 0 ∧ b = 0) → zst Mc 0 0 (nI 0) a b = Mc a b := fun a b q => by rw [zst_ap, if_neg q]
  have hm : ∀ a b, ¬ (a = 38 ∧ b = 1) → zst Mm 38 1 (nI 0) a b = Mm a b := fun a b q => by rw [zst_ap, if_neg q]
  have hn6 := a1.1
  refine ⟨a1.keep (hc _ _ (by omega)) (fun t j ht => hc _ _ (by omega)), a2.keep (hm _ _ (by omega)) (fun a j _ _ => hm _ _ (by omega)), a3.keep (hc _ _ (by omega)) (fun _ => hc _ _ (by omega)) (fun _ => hc _ _ (by omega)) (fun _ => hc _ _ (by omega)), a4.keep (hm _ _ (by omega)) (fun a j _ _ => hm _ _ (by omega)), a5, ?_, ⟨?_, ?_, ?_⟩, ⟨by rw [zst_ap, if_pos ⟨rfl, rfl⟩], by rw [zst_ap, if_pos ⟨rfl, rfl⟩], by omega⟩, ⟨(hc _ _ (by omega)).trans d1, (hm _ _ (by omega)).trans d2⟩, fun q => absurd q (by decide)⟩
  · intro t ht
    obtain ⟨e, f1, f2, f3⟩ := a6 t ht
    exact ⟨e, f1, (hc _ _ (by omega)).trans f2, (hm _ _ (by omega)).trans f3⟩
  · intro i hi
    rw [hc _ _ (by omega), hm _ _ (by omega)]; exact b1 i hi
  · intro i hi
    rw [hc _ _ (by omega), hm _ _ (by omega)]; exact b2 i hi
  · intro t ht i hi
    rw [hc _ _ (by omega), hm _ _ (by omega)]; exact b3 t ht i hi
/-- new slots, all else as it was -/
theorem RelS.slots (h : RelS Mc Mm n per wk dl of k st ln tk 0 tm) {k' : Nat} {st' ln' tk' : Nat → Nat} (hc : ∀ a b, a < 38 → a ≠ 3 → a ≠ 4 → a ≠ 5 → a ≠ 6 → a ≠ 8 → a ≠ 9 → a ≠ 13 → Mc' a b = Mc a b)
    (hm : ∀ a b, 38 ≤ a → a < 56 → a ≠ 38 → a ≠ 44 → a ≠ 45 → a ≠ 46 → a ≠ 49 → a ≠ 50 → a ≠ 51 → a ≠ 55 → Mm' a b = Mm a b) (hm8 : ∀ b, b ≠ 0 → b ≠ 3 → Mm' 38 b = Mm 38 b) (s1 : slOK Mc' k' st' ln' tk') (s2 : smOK Mm' k' st' ln' tk') (s3 : ∀ i, i < k' → tk' i < n) : RelS Mc' Mm' n per wk dl of k' st' ln' tk' 0 tm := by
  obtain ⟨a1, a2, a3, a4, a5, a6, ⟨b1, b2, b3⟩, ⟨c1, c2, c3⟩, ⟨d1, d2⟩, e1⟩ := h
  have hn6 := a1.1
  refine ⟨a1.keep (hc _ _ (by omega) (by omega) (by omega) (by omega) (by omega) (by omega) (by omega) (by omega)) (fun t j ht => hc _ _ (by omega) (by omega) (by omega) (by omega) (by omega) (by omega) (by omega) (by omega)), a2.keep (hm8 _ (by omega) (by omega)) (fun a j _ _ => hm _ _ (by omega) (by omega) (by omega) (by omega) (by omega) (by omega) (by omega) (by omega) (by omega) (by omega)), s1, s2, s3, ?_, ⟨?_, ?_, ?_⟩, ⟨(hc _ _ (by omega) (by omega) (by omega) (by omega) (by omega) (by omega) (by omega) (by omega)).trans c1, (hm8 _ (by omega) (by omega)).trans c2, c3⟩, ⟨(hc _ _ (by omega) (by omega) (by omega) (by omega) (by omega) (by omega) (by omega) (by omega)).trans d1, (hm8 _ (by omega) (by omega)).trans d2⟩, fun q => absurd q (by decide)⟩
  · intro t ht
    obtain ⟨e, f1, f2, f3⟩ := a6 t ht
    exact ⟨e, f1, (hc _ _ (by omega) (by omega) (by omega) (by omega) (by omega) (by omega) (by omega) (by omega)).trans f2, (hm _ _ (by omega) (by omega) (by omega) (by omega) (by omega) (by omega) (by omega) (by omega) (by omega) (by omega)).trans f3⟩
  · intro i hi
    rw [hc _ _ (by omega) (by omega) (by omega) (by omega) (by omega) (by omega) (by omega) (by omega), hm _ _ (by omega) (by omega) (by omega) (by omega) (by omega) (by omega) (by omega) (by omega) (by omega) (by omega)]; exact b1 i hi
  · intro i hi
    rw [hc _ _ (by omega) (by omega) (by omega) (by omega) (by omega) (by omega) (by omega) (by omega), hm _ _ (by omega) (by omega) (by omega) (by omega) (by omega) (by omega) (by omega) (by omega) (by omega) (by omega)]; exact b2 i hi
  · intro t ht i hi
    rw [hc _ _ (by omega) (by omega) (by omega) (by omega) (by omega) (by omega) (by omega) (by omega), hm _ _ (by omega) (by omega) (by omega) (by omega) (by omega) (by omega) (by omega) (by omega) (by omega) (by omega)]; exact b3 t ht i hi
theorem RelS.drop (h : RelS Mc Mm n per wk dl of k st ln tk 0 tm) : RelS (zst Mc 3 0 (nI (k - 1))) (zst Mm 38 3 (nI (k - 1))) n per wk dl of (k - 1) st ln tk 0 tm := by
  have a3 := h.2.2.1
  have a4 := h.2.2.2.1
  have a5 := h.2.2.2.2.1
  refine h.slots (fun a b _ h3 _ _ _ _ _ _ => by rw [zst_ap, if_neg (by omega)]) (fun a b _ _ h3 _ _ _ _ _ _ _ => by rw [zst_ap, if_neg (by omega)]) (fun b _ h3 => by rw [zst_ap, if_neg (by omega)]) ⟨by rw [zst_ap, if_pos ⟨rfl, rfl⟩], by have := a3.2.1; omega, fun i hi => ?_⟩ ⟨by rw [zst_ap, if_pos ⟨rfl, rfl⟩], by have := a3.2.1; omega, fun i hi => ?_⟩ (fun i hi => a5 i (by omega))
  · rw [zst_ap, if_neg (by omega), zst_ap, if_neg (by omega), zst_ap, if_neg (by omega)]; exact a3.2.2 i (by omega)
  · rw [zst_ap, if_neg (by omega), zst_ap, if_neg (by omega), zst_ap, if_neg (by omega)]; exact a4.2.2 i (by omega)
theorem RelS.slot (h : RelS Mc Mm n per wk dl of k st ln tk 0 tm) {i q1 q2 t : Nat} (hi : i ≤ k) (hi2 : i < 60) (h1 : q1 < 240) (h2 : 1 ≤ q2) (h3 : q2 ≤ 240) (ht : t < n) : RelS (zPut Mc i k (nI q1) (nI q2) (nI t)) (zPuY Mm i k (nI q1) (nI q2) (nI t)) n per wk dl of (if i = k then k + 1 else k) (fun j => if j = i then q1 else st j) (fun j => if j = i then q2 else ln j) (fun j => if j = i then t else tk j) 0 tm := by
  have a1 := h.1.1
  have a3 := h.2.2.1
  have a4 := h.2.2.2.1
  have a5 := h.2.2.2.2.1
  have zc : ∀ a b, zPut Mc i k (nI q1) (nI q2) (nI t) a b = if a = 3 ∧ b = 0 ∧ i = k then nI (k + 1) else if a = 6 ∧ b = i then nI t else if a = 5 ∧ b = i then nI q2 else if a = 4 ∧ b = i then nI q1 else Mc a b := by
    intro a b
    unfold zPut
    by_cases e : i = k
    · rw [if_pos e, zst_ap, zst_ap, zst_ap, zst_ap]
      by_cases g : a = 3 ∧ b = 0
      · rw [if_pos g, if_pos ⟨g.1, g.2, e⟩]
      · have ng : ¬ (a = 3 ∧ b = 0 ∧ i = k) := fun z => g ⟨z.1, z.2.1⟩
        rw [if_neg g, if_neg ng]
    · have ng : ¬ (a = 3 ∧ b = 0 ∧ i = k) := fun z => e z.2.2
      rw [if_neg e, zst_ap, zst_ap, zst_ap, if_neg ng]
  have zm : ∀ a b, ¬ (a = 38 ∧ b = 0) → zPuY Mm i k (nI q1) (nI q2) (nI t) a b = if a = 38 ∧ b = 3 then (if i = k then nI (k + 1) else nI k) else if a = 46 ∧ b = i then nI t else if a = 45 ∧ b = i then nI q2 else if a = 44 ∧ b = i then nI q1 else Mm a b := by
    intro a b g
    unfold zPuY
    rw [zst_ap, zst_ap, zst_ap, zst_ap, zst_ap, if_neg g]
  refine h.slots (fun a b _ g3 g4 g5 g6 _ _ _ => ?_) (fun a b _ _ g3 g4 g5 g6 _ _ _ _ => ?_) (fun b g0 g3 => ?_) ⟨?_, ?_, fun j hj => ?_⟩ ⟨?_, ?_, fun j hj => ?_⟩ (fun j hj => ?_)
  · rw [zc, if_neg (by omega), if_neg (by omega), if_neg (by omega), if_neg (by omega)]
  · rw [zm _ _ (by omega), if_neg (by omega), if_neg (by omega), if_neg (by omega), if_neg (by omega)]
  · rw [zm _ _ (by omega), if_neg (by omega), if_neg (by omega), if_neg (by omega), if_neg (by omega)]
  · rw [zc]
    by_cases e : i = k
    · rw [if_pos ⟨rfl, rfl, e⟩, if_pos e]
    · rw [if_neg (fun z => e z.2.2), if_neg (by omega), if_neg (by omega), if_neg (by omega), if_neg e]; exact a3.1
  · have := a3.2.1
    by_cases e : i = k
    · rw [if_pos e]; omega
    · rw [if_neg e]; omega
  · rw [zc, zc, zc]
    dsimp only
    by_cases e : j = i
    · rw [if_pos e, if_pos e, if_pos e, if_neg (by omega), if_neg (by omega), if_neg (by omega), if_pos ⟨rfl, e⟩, if_neg (by omega), if_neg (by omega), if_pos ⟨rfl, e⟩, if_neg (by omega), if_pos ⟨rfl, e⟩]
      exact ⟨rfl, rfl, rfl, h1, h2, h3, by omega⟩
    · rw [if_neg e, if_neg e, if_neg e, if_neg (by omega), if_neg (by omega), if_neg (by omega), if_neg (by omega), if_neg (by omega), if_neg (by omega), if_neg (by omega), if_neg (by omega), if_neg (by omega), if_neg (by omega), if_neg (by omega), if_neg (by omega)]
      refine a3.2.2 j ?_
      by_cases g : i = k
      · rw [if_pos g] at hj; omega
      · rw [if_neg g] at hj; omega
  · rw [zm _ _ (by omega), if_pos ⟨rfl, rfl⟩]
    by_cases e : i = k
    · rw [if_pos e, if_pos e]
    · rw [if_neg e, if_neg e]
  · have := a3.2.1
    by_cases e : i = k
    · rw [if_pos e]; omega
    · rw [if_neg e]; omega
  · rw [zm _ _ (by omega), zm _ _ (by omega), zm _ _ (by omega)]
    dsimp only
    by_cases e : j = i
    · rw [if_pos e, if_pos e, if_pos e, if_neg (by omega), if_neg (by omega), if_neg (by omega), if_pos ⟨rfl, e⟩, if_neg (by omega), if_neg (by omega), if_pos ⟨rfl, e⟩, if_neg (by omega), if_pos ⟨rfl, e⟩]
      exact ⟨rfl, rfl, rfl, h1, h2, h3, by omega⟩
    · rw [if_neg e, if_neg e, if_neg e, if_neg (by omega), if_neg (by omega), if_neg (by omega), if_neg (by omega), if_neg (by omega), if_neg (by omega), if_neg (by omega), if_neg (by omega), if_neg (by omega), if_neg (by omega), if_neg (by omega), if_neg (by omega)]
      refine a4.2.2 j ?_
      by_cases g : i = k
      · rw [if_pos g] at hj; omega
      · rw [if_neg g] at hj; omega
  · by_cases e : j = i
    · rw [if_pos e]; exact ht
    · rw [if_neg e]
      refine a5 j ?_
      by_cases g : i = k
      · rw [if_pos g] at hj; omega
      · rw [if_neg g] at hj; omega
theorem RelS.clear (h : RelS Mc Mm n per wk dl of k st ln tk 0 tm) : RelS (zst (zst Mc 1 0 (nI 0)) 3 0 (nI 0)) (zst (zst Mm 38 2 (nI 0)) 38 3 (nI 0)) 0 per wk dl of 0 st ln tk 0 tm := by
  obtain ⟨a1, a2, a3, a4, a5, a6, ⟨b1, b2, b3⟩, ⟨c1, c2, c3⟩, ⟨d1, d2⟩, e1⟩ := h
  have hc : ∀ a b, a ≠ 1 → a ≠ 3 → zst (zst Mc 1 0 (nI 0)) 3 0 (nI 0) a b = Mc a b := fun a b q1 q2 => by rw [zst_ap, zst_ap, if_neg (by omega), if_neg (by omega)]
  have hm : ∀ a b, ¬ (a = 38 ∧ (b = 2 ∨ b = 3)) → zst (zst Mm 38 2 (nI 0)) 38 3 (nI 0) a b = Mm a b := fun a b q => by rw [zst_ap, zst_ap, if_neg (by omega), if_neg (by omega)]
  refine ⟨⟨by omega, by rw [zst_ap, zst_ap, if_neg (by omega), if_pos ⟨rfl, rfl⟩], fun t ht => absurd ht (by omega)⟩, ⟨by omega, by rw [zst_ap, zst_ap, if_neg (by omega), if_pos ⟨rfl, rfl⟩], fun t ht => absurd ht (by omega)⟩, ⟨by rw [zst_ap, if_pos ⟨rfl, rfl⟩], by omega, fun t ht => absurd ht (by omega)⟩, ⟨by rw [zst_ap, if_pos ⟨rfl, rfl⟩], by omega, fun t ht => absurd ht (by omega)⟩, fun t ht => absurd ht (by omega), fun t ht => absurd ht (by omega), ⟨?_, ?_, fun t ht => absurd ht (by omega)⟩, ⟨(hc _ _ (by omega) (by omega)).trans c1, (hm _ _ (by omega)).trans c2, c3⟩, ⟨(hc _ _ (by omega) (by omega)).trans d1, (hm _ _ (by omega)).trans d2⟩, fun q => absurd q (by decide)⟩
  · intro i hi
    rw [hc _ _ (by omega) (by omega), hm _ _ (by omega)]; exact b1 i hi
  · intro i hi
    rw [hc _ _ (by omega) (by omega), hm _ _ (by omega)]; exact b2 i hi
theorem zCn4_ap {M : Nat → Nat → Int32} {n i a b : Nat} : zCn4 M n i a b = if a = 54 ∧ 4 * n ≤ b ∧ b < 4 * n + i then nI 0 else M a b := by
  induction i with
  | zero => rw [if_neg (by omega)]; rfl
  | succ i ih =>
    show zst (zCn4 M n i) 54 (4 * n + i) (nI 0) a b = _
    rw [zst_ap, ih]
    by_cases h1 : a = 54 ∧ b = 4 * n + i
    · rw [if_pos h1, if_pos (by omega)]
    · rw [if_neg h1]
      by_cases h2 : a = 54 ∧ 4 * n ≤ b ∧ b < 4 * n + i
      · rw [if_pos h2, if_pos (by omega)]
      · rw [if_neg h2, if_neg (by omega)]
theorem sp_isT_nI {p w d o : Int32} (h : sp_isT p w d o) : ∃ p' w' d' o' : Nat, p = nI p' ∧ w = nI w' ∧ d = nI d' ∧ o = nI o' ∧ 1 ≤ w' ∧ w' ≤ d' ∧ d' ≤ p' ∧ p' ≤ 48 ∧ o' ≤ 48 := by
  obtain ⟨h1, h2, h3, h4, h5, h6, h7⟩ := h
  have z1 : (nI 1).toInt = 1 := nI_toInt (by decide)
  have z48 : (nI 48).toInt = 48 := nI_toInt (by decide)
  have z0 : (0 : Int32).toInt = 0 := by decide
  rw [Int32.lt_iff_toInt_lt] at h1 h2 h3 h4 h5 h6 h7
  rw [z1] at h1 h3
  rw [z48] at h2 h7
  rw [z0] at h6
  have f : ∀ x : Int32, ¬ x.toInt < 0 → ∃ j : Nat, j < 2 ^ 31 ∧ x = nI j := fun x hx => nI_of (by rw [Int32.lt_iff_toInt_lt, z0]; exact hx)
  obtain ⟨p', g1, rfl⟩ := f p (by omega)
  obtain ⟨w', g2, rfl⟩ := f w (by omega)
  obtain ⟨d', g3, rfl⟩ := f d (by omega)
  obtain ⟨o', g4, rfl⟩ := f o (by omega)
  rw [nI_toInt g1] at h1 h2 h5
  rw [nI_toInt g2] at h3 h4
  rw [nI_toInt g3] at h4 h5
  rw [nI_toInt g4] at h6 h7
  exact ⟨p', w', d', o', rfl, rfl, rfl, rfl, by omega, by omega, by omega, by omega, by omega⟩
theorem zApp_ap {M : Nat → Nat → Int32} {n : Nat} {p w d o : Int32} {a b : Nat} : zApp M n p w d o a b = if a = 1 ∧ b = 0 then nI (n + 1) else if a = 32 + n ∧ b < 4 then nI 0 else if a = 20 + n ∧ b = 3 then nI 0 else if a = 14 + n ∧ b = 4 then nI (8 * n) else if a = 14 + n ∧ b = 3 then o else if a = 14 + n ∧ b = 2 then d else if a = 14 + n ∧ b = 1 then w else if a = 14 + n ∧ b = 0 then p else M a b := by
  unfold zApp zFor
  rw [zst_ap, zfl_ap, zst_ap, zst_ap, zst_ap, zst_ap, zst_ap, zst_ap]
theorem RelS.task (h : RelS Mc Mm n per wk dl of k st ln tk 0 tm) {p w d o : Nat} (hn : n < 6) (h1 : 1 ≤ w) (h2 : w ≤ d) (h3 : d ≤ p) (h4 : p ≤ 48) (h5 : o ≤ 48) : RelS (zApp Mc n (nI p) (nI w) (nI d) (nI o)) (zst (zCn4 (zApY Mm n (nI p) (nI w) (nI d) (nI o)) n 4) 38 2 (nI (n + 1))) (n + 1) (fun j => if j = n then p else per j) (fun j => if j = n then w else wk j) (fun j => if j = n then d else dl j) (fun j => if j = n then o else of j) k st ln tk 0 tm := by
  obtain ⟨a1, a2, a3, a4, a5, a6, ⟨b1, b2, b3⟩, ⟨c1, c2, c3⟩, ⟨d1, d2⟩, e1⟩ := h
  have zm : ∀ a b, zst (zCn4 (zApY Mm n (nI p) (nI w) (nI d) (nI o)) n 4) 38 2 (nI (n + 1)) a b = if a = 38 ∧ b = 2 then nI (n + 1) else if a = 54 ∧ 4 * n ≤ b ∧ b < 4 * n + 4 then nI 0 else if a = 43 ∧ b = n then nI (8 * n) else if a = 42 ∧ b = n then nI o else if a = 41 ∧ b = n then nI d else if a = 40 ∧ b = n then nI w else if a = 39 ∧ b = n then nI p else if a = 38 ∧ b = 0 then nI 0 else Mm a b := by
    intro a b
    rw [zst_ap, zCn4_ap]
    unfold zApY
    rw [zst_ap, zst_ap, zst_ap, zst_ap, zst_ap, zst_ap]
  have hc : ∀ a b, ¬ (a = 1 ∧ b = 0) → a ≠ 32 + n → a ≠ 20 + n → a ≠ 14 + n → zApp Mc n (nI p) (nI w) (nI d) (nI o) a b = Mc a b := fun a b q1 q2 q3 q4 => by rw [zApp_ap, if_neg q1, if_neg (by omega), if_neg (by omega), if_neg (by omega), if_neg (by omega), if_neg (by omega), if_neg (by omega), if_neg (by omega)]
  have hm : ∀ a b, ¬ (a = 38 ∧ (b = 2 ∨ b = 0)) → ¬ (a = 54 ∧ 4 * n ≤ b) → ¬ (39 ≤ a ∧ a ≤ 43 ∧ b = n) → zst (zCn4 (zApY Mm n (nI p) (nI w) (nI d) (nI o)) n 4) 38 2 (nI (n + 1)) a b = Mm a b := fun a b q1 q2 q3 => by rw [zm, if_neg (by omega), if_neg (by omega), if_neg (by omega), if_neg (by omega), if_neg (by omega), if_neg (by omega), if_neg (by omega), if_neg (by omega)]
  refine ⟨⟨by omega, by rw [zApp_ap, if_pos ⟨rfl, rfl⟩], fun t ht => ?_⟩, ⟨by omega, by rw [zm, if_pos ⟨rfl, rfl⟩], fun t ht => ?_⟩, a3.keep (hc _ _ (by omega) (by omega) (by omega) (by omega)) (fun _ => hc _ _ (by omega) (by omega) (by omega) (by omega)) (fun _ => hc _ _ (by omega) (by omega) (by omega) (by omega)) (fun _ => hc _ _ (by omega) (by omega) (by omega) (by omega)), a4.keep (hm _ _ (by omega) (by omega) (by omega)) (fun a j _ _ => hm _ _ (by omega) (by omega) (by omega)), fun i hi => Nat.lt_succ_of_lt (a5 i hi), ?_, ⟨?_, ?_, ?_⟩, ⟨(hc _ _ (by omega) (by omega) (by omega) (by omega)).trans c1, (hm _ _ (by omega) (by omega) (by omega)).trans c2, c3⟩, ⟨(hc _ _ (by omega) (by omega) (by omega) (by omega)).trans d1, (hm _ _ (by omega) (by omega) (by omega)).trans d2⟩, fun q => absurd q (by decide)⟩
  · dsimp only
    by_cases e : t = n
    · subst e
      rw [if_pos rfl, if_pos rfl, if_pos rfl, if_pos rfl]
      refine ⟨?_, ?_, ?_, ?_, h1, h2, h3, h4, h5⟩
      · rw [zApp_ap, if_neg (by omega), if_neg (by omega), if_neg (by omega), if_neg (by omega), if_neg (by omega), if_neg (by omega), if_neg (by omega), if_pos (by omega)]
      · rw [zApp_ap, if_neg (by omega), if_neg (by omega), if_neg (by omega), if_neg (by omega), if_neg (by omega), if_neg (by omega), if_pos (by omega)]
      · rw [zApp_ap, if_neg (by omega), if_neg (by omega), if_neg (by omega), if_neg (by omega), if_neg (by omega), if_pos (by omega)]
      · rw [zApp_ap, if_neg (by omega), if_neg (by omega), if_neg (by omega), if_neg (by omega), if_pos (by omega)]
    · rw [if_neg e, if_neg e, if_neg e, if_neg e, hc _ _ (by omega) (by omega) (by omega) (by omega), hc _ _ (by omega) (by omega) (by omega) (by omega), hc _ _ (by omega) (by omega) (by omega) (by omega), hc _ _ (by omega) (by omega) (by omega) (by omega)]
      exact a1.2.2 t (by omega)
  · dsimp only
    by_cases e : t = n
    · subst e
      rw [if_pos rfl, if_pos rfl, if_pos rfl, if_pos rfl]
      refine ⟨?_, ?_, ?_, ?_, h1, h2, h3, h4, h5⟩
      · rw [zm, if_neg (by omega), if_neg (by omega), if_neg (by omega), if_neg (by omega), if_neg (by omega), if_neg (by omega), if_pos (by omega)]
      · rw [zm, if_neg (by omega), if_neg (by omega), if_neg (by omega), if_neg (by omega), if_neg (by omega), if_pos (by omega)]
      · rw [zm, if_neg (by omega), if_neg (by omega), if_neg (by omega), if_neg (by omega), if_pos (by omega)]
      · rw [zm, if_neg (by omega), if_neg (by omega), if_neg (by omega), if_pos (by omega)]
    · rw [if_neg e, if_neg e, if_neg e, if_neg e, hm _ _ (by omega) (by omega) (by omega), hm _ _ (by omega) (by omega) (by omega), hm _ _ (by omega) (by omega) (by omega), hm _ _ (by omega) (by omega) (by omega)]
      exact a2.2.2 t (by omega)
  · intro t ht
    by_cases e : t = n
    · subst e
      exact ⟨8 * t, by omega, by rw [zApp_ap, if_neg (by omega), if_neg (by omega), if_neg (by omega), if_pos (by omega)], by rw [zm, if_neg (by omega), if_neg (by omega), if_pos (by omega)]⟩
    · obtain ⟨x, f1, f2, f3⟩ := a6 t (by omega)
      exact ⟨x, f1, (hc _ _ (by omega) (by omega) (by omega) (by omega)).trans f2, (hm _ _ (by omega) (by omega) (by omega)).trans f3⟩
  · intro i hi
    rw [hc _ _ (by omega) (by omega) (by omega) (by omega), hm _ _ (by omega) (by omega) (by omega)]; exact b1 i hi
  · intro i hi
    rw [hc _ _ (by omega) (by omega) (by omega) (by omega), hm _ _ (by omega) (by omega) (by omega)]; exact b2 i hi
  · intro t ht i hi
    by_cases e : t = n
    · subst e
      rw [zApp_ap, if_neg (by omega), if_pos (by omega), zm, if_neg (by omega), if_pos (by omega)]
    · rw [hc _ _ (by omega) (by omega) (by omega) (by omega), hm _ _ (by omega) (by omega) (by omega)]; exact b3 t (by omega) i hi
end REL
