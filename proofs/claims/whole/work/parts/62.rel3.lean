section REL3
variable {Mc Mm Mc' Mm' M M1 M2 : Nat → Nat → Int32} {n : Nat} {per wk dl of : Nat → Nat} {k : Nat} {st ln tk : Nat → Nat} {md tm : Nat}
/-- a program at work: place, registers, shared words -/
def insR (Mc Mm : Nat → Nat → Int32) (t : Nat) : Prop := Mc (20 + t) 0 = Mm 52 t ∧ (∀ j, j < 4 → Mc (26 + t) j = Mm 53 (4 * t + j)) ∧ ∀ j, j < 16 → Mc 12 j = Mm 48 j
theorem insR.reg {t a : Nat} {x y : Int32} (h : insR Mc Mm t) (ht : t < 6) (e : x = y) : insR (zst Mc (26 + t) a x) (zst Mm 53 (4 * t + a) y) t := by
  subst e
  refine ⟨?_, fun j hj => ?_, fun j hj => ?_⟩
  · rw [zst_ap, if_neg (by omega), zst_ap, if_neg (by omega)]; exact h.1
  · rw [zst_ap, zst_ap]
    by_cases q : j = a
    · rw [if_pos ⟨rfl, q⟩, if_pos ⟨rfl, by omega⟩]
    · rw [if_neg (by omega), if_neg (by omega)]; exact h.2.1 j hj
  · rw [zst_ap, if_neg (by omega), zst_ap, if_neg (by omega)]; exact h.2.2 j hj
theorem insR.word {t i : Nat} {x y : Int32} (h : insR Mc Mm t) (e : x = y) : insR (zst Mc 12 i x) (zst Mm 48 i y) t := by
  subst e
  refine ⟨?_, fun j hj => ?_, fun j hj => ?_⟩
  · rw [zst_ap, if_neg (by omega), zst_ap, if_neg (by omega)]; exact h.1
  · rw [zst_ap, if_neg (by omega), zst_ap, if_neg (by omega)]; exact h.2.1 j hj
  · rw [zst_ap, zst_ap]
    by_cases q : j = i
    · rw [if_pos ⟨rfl, q⟩, if_pos ⟨rfl, q⟩]
    · rw [if_neg (by omega), if_neg (by omega)]; exact h.2.2 j hj
theorem insR.place {t : Nat} {x : Int32} (h : (∀ j, j < 4 → Mc (26 + t) j = Mm 53 (4 * t + j)) ∧ ∀ j, j < 16 → Mc 12 j = Mm 48 j) : insR (zst Mc (20 + t) 0 x) (zst Mm 52 t x) t := by
  refine ⟨?_, fun j hj => ?_, fun j hj => ?_⟩
  · rw [zst_ap, if_pos ⟨rfl, rfl⟩, zst_ap, if_pos ⟨rfl, rfl⟩]
  · rw [zst_ap, if_neg (by omega), zst_ap, if_neg (by omega)]; exact h.1 j hj
  · rw [zst_ap, if_neg (by omega), zst_ap, if_neg (by omega)]; exact h.2 j hj
theorem insR.stp {t o a b : Nat} {v : Int32} (h : insR Mc Mm t) (ht : t < 6) (ha : a < 4) (hb : b < 4) : insR (zStp o a b v Mc (20 + t) 0 (26 + t) (fun a => a) 12) (zStp o a b v Mm 52 t 53 (fun a => 4 * t + a) 48) t := by
  unfold zStp
  have e1 := h.2.1 a ha
  have e2 := h.2.1 b hb
  split
  · exact h.reg ht rfl
  · exact h.reg ht (by dsimp only; rw [e1, e2])
  · exact h.reg ht (by dsimp only; rw [e1, e2])
  · exact h.reg ht (by dsimp only; rw [e1, e2])
  · exact h.reg ht (by dsimp only; rw [e2]; exact h.2.2 _ (lowb_lt 4 _))
  · dsimp only; rw [e2]; exact h.word e1
  · dsimp only; rw [e1]
    by_cases q : Mm 53 (4 * t + a) = 0
    · rw [if_pos q, if_pos q]; exact insR.place h.2
    · rw [if_neg q, if_neg q]; exact h
  · dsimp only; rw [e1]
    by_cases q : Mm 53 (4 * t + a) < 0
    · rw [if_pos q, if_pos q]; exact insR.place h.2
    · rw [if_neg q, if_neg q]; exact h
  · exact insR.place h.2
  · exact h.reg ht (by dsimp only; rw [e1])
  · exact h
theorem zStp_53 {t o a b u j : Nat} {v : Int32} (ha : a < 4) (hu : u ≠ t) (hj : j < 4) : zStp o a b v M 52 t 53 (fun a => 4 * t + a) 48 53 (4 * u + j) = M 53 (4 * u + j) := by
  unfold zStp
  split
  all_goals try dsimp only
  all_goals first
    | rfl
    | (rw [zst_ap, if_neg (by omega)]; done)
    | (split
       · rw [zst_ap, if_neg (by omega)]
       · rfl)
theorem insR.ins {t pl : Nat} (h : (∀ j, j < 4 → Mc (26 + t) j = Mm 53 (4 * t + j)) ∧ ∀ j, j < 16 → Mc 12 j = Mm 48 j) (ht : t < 6) (e : Mc 11 pl = Mm 47 pl) : insR (zIns Mc t pl) (zInY Mm t pl) t := by
  unfold zIns zInY
  rw [e]
  exact (insR.place h).stp ht (lowb_lt 2 _) (lowb_lt 2 _)
theorem zInY_53 {t pl u j : Nat} (hu : u ≠ t) (hj : j < 4) : zInY M t pl 53 (4 * u + j) = M 53 (4 * u + j) := by
  unfold zInY
  rw [zStp_53 (lowb_lt 2 _) hu hj, zst_ap, if_neg (by omega)]
theorem zEnd_cnt {t o : Nat} {tmv : Int32} (ht : t < 6) (ho : 1 ≤ o) (ho3 : o ≤ 3) (hcn : ∀ j, j < 4 → Mc (32 + t) j = Mm 54 (4 * t + j)) (htm : tmv = Mm 38 4) (hrl : Mc (20 + t) 2 = Mm 50 t) : ∀ j, j < 4 → zEnd Mc t o tmv (32 + t) j = zEnY Mm t o 54 (4 * t + j) := by
  have X : ∀ j, j < 4 → zEn1 Mc t o (32 + t) j = zEnY1 Mm t o 54 (4 * t + j) := by
    intro j hj
    have z1 : ∀ b, zst Mc (20 + t) 3 (nI 0) (32 + t) b = Mc (32 + t) b := fun b => by rw [zst_ap, if_neg (by omega)]
    have z2 : ∀ b, zst Mm 49 t (nI 0) 54 b = Mm 54 b := fun b => by rw [zst_ap, if_neg (by omega)]
    unfold zEn1 zEnY1
    rw [z1 (o - 1), z2 (4 * t + o - 1), zst_ap _ (32 + t), zst_ap _ 54, z1, z2]
    by_cases q : j = o - 1
    · have g1 : 32 + t = 32 + t ∧ j = o - 1 := ⟨rfl, q⟩
      have g2 : 54 = 54 ∧ 4 * t + j = 4 * t + o - 1 := ⟨rfl, by omega⟩
      rw [if_pos g1, if_pos g2, hcn _ (by omega), show 4 * t + (o - 1) = 4 * t + o - 1 by omega]
    · have g1 : ¬ (32 + t = 32 + t ∧ j = o - 1) := by omega
      have g2 : ¬ (54 = 54 ∧ 4 * t + j = 4 * t + o - 1) := by omega
      rw [if_neg g1, if_neg g2]; exact hcn j hj
  have e1 : zEn1 Mc t o (20 + t) 2 = Mm 50 t := by
    unfold zEn1
    rw [zst_ap, if_neg (by omega), zst_ap, if_neg (by omega)]; exact hrl
  have e2 : zEnY1 Mm t o 38 4 = Mm 38 4 := by
    unfold zEnY1
    rw [zst_ap, if_neg (by omega), zst_ap, if_neg (by omega)]
  have e3 : zEnY1 Mm t o 50 t = Mm 50 t := by
    unfold zEnY1
    rw [zst_ap, if_neg (by omega), zst_ap, if_neg (by omega)]
  intro j hj
  unfold zEnd zEnY
  rw [e2, e3]
  by_cases q : o = 1
  · rw [if_pos q]
    unfold zEn2
    rw [zst_ap, X 3 (by omega), e1, htm]
    by_cases c : zEnY1 Mm t o 54 (4 * t + 3) < Mm 38 4 - Mm 50 t
    · have qc : o = 1 ∧ zEnY1 Mm t o 54 (4 * t + 3) < Mm 38 4 - Mm 50 t := ⟨q, c⟩
      rw [if_pos qc, if_pos c, zst_ap]
      by_cases g : j = 3
      · have g1 : 32 + t = 32 + t ∧ j = 3 := ⟨rfl, g⟩
        have g2 : 54 = 54 ∧ 4 * t + j = 4 * t + 3 := ⟨rfl, by omega⟩
        rw [if_pos g1, if_pos g2]
      · have g1 : ¬ (32 + t = 32 + t ∧ j = 3) := by omega
        have g2 : ¬ (54 = 54 ∧ 4 * t + j = 4 * t + 3) := by omega
        rw [if_neg g1, if_neg g2]; exact X j hj
    · have qc : ¬ (o = 1 ∧ zEnY1 Mm t o 54 (4 * t + 3) < Mm 38 4 - Mm 50 t) := fun z => c z.2
      rw [if_neg qc, if_neg c]
      by_cases g : j = 3
      · have g1 : 32 + t = 32 + t ∧ j = 3 := ⟨rfl, g⟩
        rw [if_pos g1, g]
      · have g1 : ¬ (32 + t = 32 + t ∧ j = 3) := by omega
        rw [if_neg g1]; exact X j hj
  · have qc : ¬ (o = 1 ∧ zEnY1 Mm t o 54 (4 * t + 3) < Mm 38 4 - Mm 50 t) := fun z => q z.1
    rw [if_neg q, if_neg qc]; exact X j hj
theorem zEnd_cl {t o : Nat} {tmv : Int32} : zEnd M t o tmv (20 + t) 3 = nI 0 := by
  have X : zEn1 M t o (20 + t) 3 = nI 0 := by
    unfold zEn1
    rw [zst_ap, if_neg (by omega), zst_ap, if_pos ⟨rfl, rfl⟩]
  unfold zEnd
  split
  · unfold zEn2
    rw [zst_ap, if_neg (by omega)]; exact X
  · exact X
theorem zEnY_54 {t o u j : Nat} (ho : 1 ≤ o) (ho3 : o ≤ 3) (hu : u ≠ t) (hj : j < 4) : zEnY M t o 54 (4 * u + j) = M 54 (4 * u + j) := by
  have X : zEnY1 M t o 54 (4 * u + j) = M 54 (4 * u + j) := by
    unfold zEnY1
    rw [zst_ap, if_neg (by omega), zst_ap, if_neg (by omega)]
  unfold zEnY
  split
  · rw [zst_ap, if_neg (by omega)]; exact X
  · exact X
/-- what a tick moves -/
def dynR (Mc Mm : Nat → Nat → Int32) (n : Nat) (wk : Nat → Nat) : Prop := (∀ j, j < 16 → Mc 12 j = Mm 48 j) ∧ (∀ t, t < n → ∀ j, j < 4 → Mc (32 + t) j = Mm 54 (4 * t + j)) ∧ ∀ t, t < n → jobR Mc Mm t (wk t)
theorem dynR.keep (h : dynR Mc Mm n wk) (hn : n ≤ 6) (h1 : ∀ a b, 12 ≤ a → a < 38 → Mc' a b = Mc a b) (h2 : ∀ a b, 48 ≤ a → a < 56 → Mm' a b = Mm a b) : dynR Mc' Mm' n wk := by
  obtain ⟨b2, b3, f4⟩ := h
  refine ⟨fun j hj => ?_, fun t ht j hj => ?_, fun t ht => ?_⟩
  · rw [h1 _ _ (by omega) (by omega), h2 _ _ (by omega) (by omega)]; exact b2 j hj
  · rw [h1 _ _ (by omega) (by omega), h2 _ _ (by omega) (by omega)]; exact b3 t ht j hj
  · rcases f4 t ht with ⟨q1, q2⟩ | ⟨q1, q2, pl, hd, q3, q4, q5, q6, q7, q8, q9, q0⟩
    · exact Or.inl ⟨(h1 _ _ (by omega) (by omega)).trans q1, (h2 _ _ (by omega) (by omega)).trans q2⟩
    · exact Or.inr ⟨(h1 _ _ (by omega) (by omega)).trans q1, (h2 _ _ (by omega) (by omega)).trans q2, pl, hd, q3, q4, (h1 _ _ (by omega) (by omega)).trans q5, (h2 _ _ (by omega) (by omega)).trans q6, (h1 _ _ (by omega) (by omega)).trans q7, (h2 _ _ (by omega) (by omega)).trans q8, by rw [h1 _ _ (by omega) (by omega), h2 _ _ (by omega) (by omega)]; exact q9, fun j hj => by rw [h1 _ _ (by omega) (by omega), h2 _ _ (by omega) (by omega)]; exact q0 j hj⟩
theorem dynR.rel (h : dynR Mc Mm n wk) (hn : n ≤ 6) (hF : relF Mc Mm n) (hw : ∀ t, t < n → 1 ≤ wk t) : dynR (zRel Mc of per tm n) (zReY Mm of per tm n) n wk := by
  obtain ⟨b2, b3, f4⟩ := h
  refine ⟨fun j hj => ?_, fun t ht j hj => ?_, fun t ht => ?_⟩
  · rw [zRel_out hn (by omega), zReY_out (by omega)]; exact b2 j hj
  · rw [zRel_out hn (by omega), zReY_out (by omega)]; exact b3 t ht j hj
  · by_cases c : sp_rel (of t) (per t) tm
    · obtain ⟨u1, u2⟩ := zRel_yes (M := Mc) hn ht c
      obtain ⟨v1, v2, v3, v4, v5⟩ := zReY_yes (M := Mm) ht c
      obtain ⟨e, g1, g2, g3⟩ := hF t ht
      refine Or.inr ⟨by rw [u1, if_pos rfl], v1, e, 0, g1, hw t ht, ?_, v4.trans g3, ?_, v3, ?_, fun j hj => ?_⟩
      · rw [u1, if_neg (by omega), if_neg (by omega), if_neg (by omega), if_pos rfl]; exact g2
      · rw [u1, if_neg (by omega), if_neg (by omega), if_pos rfl]
      · rw [u1, if_neg (by omega), if_pos rfl, v2]
      · rw [u2, if_pos hj, v5 j hj]
    · obtain ⟨u1, u2⟩ := zRel_no (M := Mc) (i := n) hn (by omega) c
      obtain ⟨v1, v2, v3, v4, v5⟩ := zReY_no (M := Mm) (i := n) c
      rcases f4 t ht with ⟨q1, q2⟩ | ⟨q1, q2, pl, hd, q3, q4, q5, q6, q7, q8, q9, q0⟩
      · exact Or.inl ⟨(u1 3).trans q1, v1.trans q2⟩
      · exact Or.inr ⟨(u1 3).trans q1, v1.trans q2, pl, hd, q3, q4, (u1 0).trans q5, v4.trans q6, (u1 1).trans q7, v3.trans q8, by rw [u1, v2]; exact q9, fun j hj => by rw [u2, v5 j hj]; exact q0 j hj⟩
theorem dynR.serve (h : dynR Mc Mm n wk) (hn : n ≤ 6) {t pl hd : Nat} (ht : t < n) (hpl : pl < 64) (hhd : hd < wk t) (hcode : Mc 11 pl = Mm 47 pl) (htm : Mc 0 2 + nI 1 = Mm 38 4) (o1 : Mc (20 + t) 3 = nI 1) (o2 : Mm 49 t = nI 1) (r1 : Mc (20 + t) 2 = Mm 50 t) (r2 : ∀ j, j < 4 → Mc (26 + t) j = Mm 53 (4 * t + j)) : dynR (zSv Mc t pl hd (wk t)) (zSvY Mm t pl hd (wk t)) n wk := by
  obtain ⟨b2, b3, f4⟩ := h
  have I := insR.ins (t := t) (pl := pl) ⟨r2, b2⟩ (by omega) hcode
  obtain ⟨qp, qb, qe⟩ := zInY_pl (M := Mm) (t := t) (pl := pl)
  have oc : ∀ a b, a ≠ 20 + t → a ≠ 26 + t → a ≠ 12 → a ≠ 32 + t → zSv Mc t pl hd (wk t) a b = Mc a b := fun a b g1 g2 g3 g4 => zSv_out g1 g2 g3 g4
  have om : ∀ a b, (a < 48 ∨ a = 50 ∨ 54 < a ∨ (48 < a ∧ a < 53 ∧ b ≠ t)) → zSvY Mm t pl hd (wk t) a b = Mm a b := fun a b g => zSvY_out g
  have om53 : ∀ u j, u ≠ t → j < 4 → zSvY Mm t pl hd (wk t) 53 (4 * u + j) = Mm 53 (4 * u + j) := by
    intro u j hu hj
    unfold zSvY
    split
    · rw [zst_ap, if_neg (by omega), zInY_53 hu hj]
    · rw [zEnY_out (by omega) (by omega), zst_ap, if_neg (by omega), zInY_53 hu hj]
  have others : ∀ u, u < n → u ≠ t → jobR (zSv Mc t pl hd (wk t)) (zSvY Mm t pl hd (wk t)) u (wk u) := by
    intro u hu hne
    rcases f4 u hu with ⟨q1, q2⟩ | ⟨q1, q2, pl, hd, q3, q4, q5, q6, q7, q8, q9, q0⟩
    · exact Or.inl ⟨(oc _ _ (by omega) (by omega) (by omega) (by omega)).trans q1, (om _ _ (by omega)).trans q2⟩
    · exact Or.inr ⟨(oc _ _ (by omega) (by omega) (by omega) (by omega)).trans q1, (om _ _ (by omega)).trans q2, pl, hd, q3, q4, (oc _ _ (by omega) (by omega) (by omega) (by omega)).trans q5, (om _ _ (by omega)).trans q6, (oc _ _ (by omega) (by omega) (by omega) (by omega)).trans q7, (om _ _ (by omega)).trans q8, by rw [oc _ _ (by omega) (by omega) (by omega) (by omega), om _ _ (by omega)]; exact q9, fun j hj => by rw [oc _ _ (by omega) (by omega) (by omega) (by omega), om53 _ _ hne hj]; exact q0 j hj⟩
  refine ⟨fun j hj => ?_, fun u hu j hj => ?_, fun u hu => ?_⟩
  · unfold zSv zSvY
    rw [hcode]
    split
    · rw [zst_ap, if_neg (by omega), zst_ap, if_neg (by omega)]; exact I.2.2 j hj
    · rw [zEnd_out (by omega) (by omega), zst_ap, if_neg (by omega), zEnY_out (by omega) (by omega), zst_ap, if_neg (by omega)]; exact I.2.2 j hj
  · by_cases e : u = t
    · subst e
      unfold zSv zSvY
      rw [hcode]
      split
      · rw [zst_ap, if_neg (by omega), zst_ap, if_neg (by omega), zIns_out (by omega) (by omega) (by omega), zInY_out (by omega) (by omega) (by omega)]; exact b3 u hu j hj
      · rename_i hne
        have h3 := sv_out_le (lowb 4 (Mm 47 pl)) hd (wk u)
        refine zEnd_cnt (by omega) (by omega) h3 (fun i hi => ?_) ?_ ?_ j hj
        · rw [zst_ap, if_neg (by omega), zst_ap, if_neg (by omega), zIns_out (by omega) (by omega) (by omega), zInY_out (by omega) (by omega) (by omega)]; exact b3 u hu i hi
        · rw [zst_ap, if_neg (by omega), zInY_out (by omega) (by omega) (by omega)]; exact htm
        · rw [zst_ap, if_neg (by omega), zst_ap, if_neg (by omega), zIns_out (by omega) (by omega) (by omega), zInY_out (by omega) (by omega) (by omega)]; exact r1
    · rw [oc _ _ (by omega) (by omega) (by omega) (by omega)]
      unfold zSvY
      split
      · rw [zst_ap, if_neg (by omega), zInY_out (by omega) (by omega) (by omega)]; exact b3 u hu j hj
      · rename_i hne
        have h3 := sv_out_le (lowb 4 (Mm 47 pl)) hd (wk t)
        rw [zEnY_54 (by omega) h3 e hj, zst_ap, if_neg (by omega), zInY_out (by omega) (by omega) (by omega)]; exact b3 u hu j hj
  · by_cases e : u = t
    · subst e
      unfold zSv zSvY
      rw [hcode]
      by_cases hz : sv_out (lowb 4 (Mm 47 pl)) hd (wk u) = 0
      · rw [if_pos hz, if_pos hz]
        have hlt : hd + 1 < wk u := by
          unfold sv_out at hz
          by_cases g : mc_out (lowb 4 (Mm 47 pl)) = 0 ∧ wk u ≤ hd + 1
          · rw [if_pos g] at hz; omega
          · rw [if_neg g] at hz; omega
        refine Or.inr ⟨?_, ?_, qp, hd + 1, qb, hlt, ?_, ?_, ?_, ?_, ?_, fun j hj => ?_⟩
        · rw [zst_ap, if_neg (by omega), zIns_out (by omega) (by omega) (by omega)]; exact o1
        · rw [zst_ap, if_neg (by omega), zInY_out (by omega) (by omega) (by omega)]; exact o2
        · rw [zst_ap, if_neg (by omega), I.1]; exact qe
        · rw [zst_ap, if_neg (by omega)]; exact qe
        · rw [zst_ap, if_pos ⟨rfl, rfl⟩]
        · rw [zst_ap, if_pos ⟨rfl, rfl⟩]
        · rw [zst_ap, if_neg (by omega), zst_ap, if_neg (by omega), zIns_out (by omega) (by omega) (by omega), zInY_out (by omega) (by omega) (by omega)]; exact r1
        · rw [zst_ap, if_neg (by omega), zst_ap, if_neg (by omega)]; exact I.2.1 j hj
      · rw [if_neg hz, if_neg hz]
        exact Or.inl ⟨zEnd_cl, zEnY_op⟩
    · exact others u hu e
theorem tkF_out {own : Nat → Option Nat} {h a b : Nat} (hn : n ≤ 6) (ho : ∀ t, own (tm % h) = some t → t < n) (h1 : ¬ (a = 0 ∧ b = 2)) (h2 : a < 12 ∨ (12 < a ∧ a < 20) ∨ 38 ≤ a) : (tkF n per wk of own h tm M).1 a b = M a b := by
  unfold tkF
  rcases hq : own (tm % h) with _ | t
  · dsimp only
    rw [zst_ap, if_neg h1, zRel_out hn (by omega)]
  · dsimp only
    have := ho t hq
    split
    · dsimp only
      rw [zst_ap, if_neg h1, zRel_out hn (by omega)]
    · dsimp only
      rw [zst_ap, if_neg h1, zSv_out (by omega) (by omega) (by omega) (by omega), zRel_out hn (by omega)]
theorem mdF_out {own : Nat → Option Nat} {h a b : Nat} (h1 : ¬ (a = 38 ∧ b = 4)) (h2 : a < 48 ∨ 54 < a) : (mdF n per wk of own h tm M).1 a b = M a b := by
  unfold mdF
  rcases hq : own (tm % h) with _ | t
  · dsimp only
    rw [zst_ap, if_neg h1, zReY_out (by omega)]
  · dsimp only
    split
    · dsimp only
      rw [zst_ap, if_neg h1, zReY_out (by omega)]
    · dsimp only
      rw [zSvY_out (by omega), zst_ap, if_neg h1, zReY_out (by omega)]
/-- one tick, on both sides -/
theorem RelS.tick {h : Nat} (hR : RelS Mc Mm n per wk dl of k st ln tk 1 tm) (hh : sp_rd n per h) : RelS (tkF n per wk of (fun x => sp_at st ln tk k x) h tm Mc).1 (mdF n per wk of (fun x => sp_at st ln tk k x) h tm Mm).1 n per wk dl of k st ln tk 1 (tm + 1) ∧ (tkF n per wk of (fun x => sp_at st ln tk k x) h tm Mc).2 = (mdF n per wk of (fun x => sp_at st ln tk k x) h tm Mm).2 := by
  obtain ⟨a1, a2, a3, a4, a5, a6, ⟨b1, b2, b3⟩, ⟨c1, c2, c3⟩, ⟨d1, d2⟩, e1⟩ := hR
  obtain ⟨h', f1, f2, f3, f4⟩ := e1 rfl
  have eh := sp_rd_uq f1 hh
  subst eh
  have hn6 := a1.1
  have own : ∀ u t, sp_at st ln tk k u = some t → t < n := fun u t q => by
    obtain ⟨j, hj, e⟩ := sp_at_in q
    rw [← e]; exact a5 j hj
  have D0 : dynR (zRel Mc of per tm n) (zReY Mm of per tm n) n wk := dynR.rel ⟨b2, b3, f4⟩ hn6 a6 (fun t ht => (a1.2.2 t ht).2.2.2.2.1)
  have main : dynR (tkF n per wk of (fun x => sp_at st ln tk k x) h' tm Mc).1 (mdF n per wk of (fun x => sp_at st ln tk k x) h' tm Mm).1 n wk ∧ (tkF n per wk of (fun x => sp_at st ln tk k x) h' tm Mc).2 = (mdF n per wk of (fun x => sp_at st ln tk k x) h' tm Mm).2 ∧ (tkF n per wk of (fun x => sp_at st ln tk k x) h' tm Mc).1 0 2 = nI (tm + 1) ∧ (mdF n per wk of (fun x => sp_at st ln tk k x) h' tm Mm).1 38 4 = nI (tm + 1) := by
    have idle : dynR (zst (zRel Mc of per tm n) 0 2 (nI (tm + 1))) (zst (zReY Mm of per tm n) 38 4 (nI (tm + 1))) n wk := D0.keep hn6 (fun a b g1 g2 => by rw [zst_ap, if_neg (by omega)]) (fun a b g1 g2 => by rw [zst_ap, if_neg (by omega)])
    rcases hq : sp_at st ln tk k (tm % h') with _ | t
    · rw [tkF_none hq, mdF_none hq]
      dsimp only
      exact ⟨idle, rfl, by rw [zst_ap, if_pos ⟨rfl, rfl⟩], by rw [zst_ap, if_pos ⟨rfl, rfl⟩]⟩
    · have ht := own _ _ hq
      rcases D0.2.2 t ht with ⟨q1, q2⟩ | ⟨q1, q2, pl, hd, q3, q4, q5, q6, q7, q8, q9, q0⟩
      · rw [tkF_idle hq q1, mdF_idle hq q2]
        dsimp only
        exact ⟨idle, rfl, by rw [zst_ap, if_pos ⟨rfl, rfl⟩], by rw [zst_ap, if_pos ⟨rfl, rfl⟩]⟩
      · have hw48 := a1.2.2 t ht
        rw [tkF_busy hq q1 q5 q7 q3 (by omega), mdF_busy hq q2 q6 q8 q3 (by omega)]
        dsimp only
        have hcode : zRel Mc of per tm n 11 pl = zReY Mm of per tm n 47 pl := by
          rw [zRel_out hn6 (by omega), zReY_out (by omega)]; exact b1 pl q3
        have hz : ∀ a b, ¬ (a = 38 ∧ b = 4) → zst (zReY Mm of per tm n) 38 4 (nI (tm + 1)) a b = zReY Mm of per tm n a b := fun a b g => by rw [zst_ap, if_neg g]
        have D1 : dynR (zRel Mc of per tm n) (zst (zReY Mm of per tm n) 38 4 (nI (tm + 1))) n wk := D0.keep hn6 (fun a b g1 g2 => rfl) (fun a b g1 g2 => hz _ _ (by omega))
        have D2 := D1.serve hn6 (pl := pl) (hd := hd) ht q3 q4 (by rw [hz _ _ (by omega)]; exact hcode) (by rw [zst_ap, if_pos ⟨rfl, rfl⟩, zRel_out hn6 (by omega), d1, nI_add]) q1 (by rw [hz _ _ (by omega)]; exact q2) (by rw [hz _ _ (by omega)]; exact q9) (fun j hj => by rw [hz _ _ (by omega)]; exact q0 j hj)
        refine ⟨D2.keep hn6 (fun a b g1 g2 => by rw [zst_ap, if_neg (by omega)]) (fun a b g1 g2 => rfl), by rw [hcode], by rw [zst_ap, if_pos ⟨rfl, rfl⟩], ?_⟩
        rw [zSvY_out (by omega), zst_ap, if_pos ⟨rfl, rfl⟩]
  have tc : ∀ a b, ¬ (a = 0 ∧ b = 2) → (a < 12 ∨ (12 < a ∧ a < 20) ∨ 38 ≤ a) → (tkF n per wk of (fun x => sp_at st ln tk k x) h' tm Mc).1 a b = Mc a b := fun a b g1 g2 => tkF_out hn6 (fun t => own _ t) g1 g2
  have tm' : ∀ a b, ¬ (a = 38 ∧ b = 4) → (a < 48 ∨ 54 < a) → (mdF n per wk of (fun x => sp_at st ln tk k x) h' tm Mm).1 a b = Mm a b := fun a b g1 g2 => mdF_out g1 g2
  obtain ⟨⟨m1, m2, m3⟩, m4, m5, m6⟩ := main
  refine ⟨⟨a1.keep (tc _ _ (by omega) (by omega)) (fun t j ht => tc _ _ (by omega) (by omega)), a2.keep (tm' _ _ (by omega) (by omega)) (fun a j _ _ => tm' _ _ (by omega) (by omega)), a3.keep (tc _ _ (by omega) (by omega)) (fun _ => tc _ _ (by omega) (by omega)) (fun _ => tc _ _ (by omega) (by omega)) (fun _ => tc _ _ (by omega) (by omega)), a4.keep (tm' _ _ (by omega) (by omega)) (fun a j _ _ => tm' _ _ (by omega) (by omega)), a5, ?_, ⟨?_, m1, m2⟩, ⟨(tc _ _ (by omega) (by omega)).trans c1, (tm' _ _ (by omega) (by omega)).trans c2, c3⟩, ⟨m5, m6⟩, fun _ => ⟨h', f1, (tc _ _ (by omega) (by omega)).trans f2, fun u hu => (tc _ _ (by omega) (by omega)).trans (f3 u hu), m3⟩⟩, m4⟩
  · intro t ht
    obtain ⟨e, g1, g2, g3⟩ := a6 t ht
    exact ⟨e, g1, (tc _ _ (by omega) (by omega)).trans g2, (tm' _ _ (by omega) (by omega)).trans g3⟩
  · intro j hj
    rw [tc _ _ (by omega) (by omega), tm' _ _ (by omega) (by omega)]; exact b1 j hj
theorem tkF_ans {own : Nat → Option Nat} {h : Nat} : (tkF n per wk of own h tm M).2 = -1 ∨ ∃ t o, own (tm % h) = some t ∧ o ≤ 3 ∧ (tkF n per wk of own h tm M).2 = nI (t + 100 * o) := by
  unfold tkF
  rcases hq : own (tm % h) with _ | t
  · exact Or.inl rfl
  · dsimp only
    split
    · exact Or.inl rfl
    · exact Or.inr ⟨t, _, rfl, sv_out_le _ _ _, rfl⟩
theorem RelS.ticks {h : Nat} (hR : RelS Mc Mm n per wk dl of k st ln tk 1 tm) (hh : sp_rd n per h) (q : Nat) : RelS (tkN n per wk of (fun x => sp_at st ln tk k x) h tm Mc q).1 (mdN n per wk of (fun x => sp_at st ln tk k x) h tm Mm q).1 n per wk dl of k st ln tk 1 (tm + q) ∧ (tkN n per wk of (fun x => sp_at st ln tk k x) h tm Mc q).2 = (mdN n per wk of (fun x => sp_at st ln tk k x) h tm Mm q).2 := by
  induction q with
  | zero => exact ⟨hR, rfl⟩
  | succ q ih =>
    obtain ⟨i1, i2⟩ := ih
    obtain ⟨t1, t2⟩ := i1.tick hh
    refine ⟨t1, ?_⟩
    have own : ∀ u t, sp_at st ln tk k u = some t → t < n := fun u t q => by
      obtain ⟨j, hj, e⟩ := sp_at_in q
      rw [← e]; exact hR.2.2.2.2.1 j hj
    show (if (tkF n per wk of (fun x => sp_at st ln tk k x) h (tm + q) (tkN n per wk of (fun x => sp_at st ln tk k x) h tm Mc q).1).2 = -1 then (tkN n per wk of (fun x => sp_at st ln tk k x) h tm Mc q).2 else (tkN n per wk of (fun x => sp_at st ln tk k x) h tm Mc q).2 + 1) = if (mdF n per wk of (fun x => sp_at st ln tk k x) h (tm + q) (mdN n per wk of (fun x => sp_at st ln tk k x) h tm Mm q).1).2 < 0 then (mdN n per wk of (fun x => sp_at st ln tk k x) h tm Mm q).2 else (mdN n per wk of (fun x => sp_at st ln tk k x) h tm Mm q).2 + 1
    rw [← t2, ← i2]
    have hn6 := hR.1.1
    rcases tkF_ans (n := n) (per := per) (wk := wk) (of := of) (own := fun x => sp_at st ln tk k x) (h := h) (tm := tm + q) (M := (tkN n per wk of (fun x => sp_at st ln tk k x) h tm Mc q).1) with e | ⟨t, o, e1, e2, e3⟩
    · rw [e, if_pos rfl, if_pos (by decide)]
    · have := own _ _ e1
      rw [e3, if_neg (xp_nem1 (by omega)), if_neg (nI_pos (by omega))]
theorem tkN_out {own : Nat → Option Nat} {h a b q : Nat} (hn : n ≤ 6) (ho : ∀ u t, own u = some t → t < n) (h1 : ¬ (a = 0 ∧ b = 2)) (h2 : a < 12 ∨ (12 < a ∧ a < 20) ∨ 38 ≤ a) : (tkN n per wk of own h tm M q).1 a b = M a b := by
  induction q with
  | zero => rfl
  | succ q ih => exact (tkF_out hn (fun t => ho _ t) h1 h2).trans ih
theorem mdN_out {own : Nat → Option Nat} {h a b q : Nat} (h1 : ¬ (a = 38 ∧ b = 4)) (h2 : a < 48 ∨ 54 < a) : (mdN n per wk of own h tm M q).1 a b = M a b := by
  induction q with
  | zero => rfl
  | succ q ih => exact (mdF_out h1 h2).trans ih
end REL3
