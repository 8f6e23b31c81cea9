theorem zStp_pl {o x y : Nat} {n : Int32} {M : Nat → Nat → Int32} {kp jp kr : Nat} {ix : Nat → Nat} {kw : Nat} (h2 : kp ≠ kr) (h3 : kp ≠ kw) (h : ∃ q, q < 64 ∧ M kp jp = nI q) : ∃ q, q < 64 ∧ zStp o x y n M kp jp kr ix kw kp jp = nI q := by
  have e : ∃ q, q < 64 ∧ zst M kp jp (nI (lowb 6 n)) kp jp = nI q := ⟨lowb 6 n, lowb_lt 6 n, by rw [zst_ap, if_pos ⟨rfl, rfl⟩]⟩
  unfold zStp
  split
  all_goals first
    | exact h
    | exact e
    | (rw [zst_ap, if_neg (by omega)]; exact h)
    | (split
       · exact e
       · exact h)
theorem zIns_pl {M : Nat → Nat → Int32} {t pl : Nat} (ht : t < 6) : ∃ q, q < 64 ∧ zIns M t pl (20 + t) 0 = nI q := by
  unfold zIns
  exact zStp_pl (by omega) (by omega) ⟨(pl + 1) % 64, Nat.mod_lt _ (by omega), by rw [zst_ap, if_pos ⟨rfl, rfl⟩]⟩
theorem zEnd_op {M : Nat → Nat → Int32} {t o : Nat} {tm : Int32} (ht : t < 6) : zEnd M t o tm (20 + t) 3 = nI 0 := by
  unfold zEnd zEn2 zEn1
  split
  · rw [zst_ap, if_neg (by omega), zst_ap, if_neg (by omega), zst_ap, if_pos ⟨rfl, rfl⟩]
  · rw [zst_ap, if_neg (by omega), zst_ap, if_pos ⟨rfl, rfl⟩]
theorem jbOK.keep {M M1 : Nat → Nat → Int32} {n : Nat} {wk : Nat → Nat} (hn : n ≤ 6) (h : jbOK M n wk) (he : ∀ t b, t < 6 → M1 (20 + t) b = M (20 + t) b) : jbOK M1 n wk := by
  intro t ht
  rw [he t 3 (by omega), he t 0 (by omega), he t 1 (by omega)]
  exact h t ht
theorem jbOK.sv {M : Nat → Nat → Int32} {n t pl hd : Nat} {wk : Nat → Nat} (hn : n ≤ 6) (h : jbOK M n wk) (ht : t < n) (ho : M (20 + t) 3 = nI 1) (hh : hd < wk t) : jbOK (zSv M t pl hd (wk t)) n wk := by
  intro u hu
  by_cases c : u = t
  · subst c
    unfold zSv
    by_cases d : sv_out (lowb 4 (M 11 pl)) hd (wk u) = 0
    · rw [if_pos d]
      have hlt : hd + 1 < wk u := by
        unfold sv_out at d
        by_cases g : mc_out (lowb 4 (M 11 pl)) = 0 ∧ wk u ≤ hd + 1
        · rw [if_pos g] at d; omega
        · rw [if_neg g] at d; omega
      obtain ⟨q, hq, hz⟩ := zIns_pl (M := M) (t := u) (pl := pl) (by omega)
      refine Or.inr ⟨?_, q, hd + 1, hq, hlt, ?_, ?_⟩
      · rw [zst_ap, if_neg (by omega), zIns_out (by omega) (by omega) (by omega)]; exact ho
      · rw [zst_ap, if_neg (by omega)]; exact hz
      · rw [zst_ap, if_pos ⟨rfl, rfl⟩]
    · rw [if_neg d]
      exact Or.inl (zEnd_op (by omega))
  · have e : ∀ b, zSv M t pl hd (wk t) (20 + u) b = M (20 + u) b := fun b => zSv_out (by omega) (by omega) (by omega) (by omega)
    rw [e, e, e]
    exact h u hu
theorem rnOK.step {M : Nat → Nat → Int32} {n : Nat} {per wk dl of : Nat → Nat} {own : Nat → Option Nat} {h tm : Nat} (hR : rnOK M n per wk dl of own h tm) : rnOK (tkF n per wk of own h tm M).1 n per wk dl of own h (tm + 1) := by
  obtain ⟨hT, hnow, hrr, hh1, hh, hown, hJ, hF⟩ := hR
  have hn := hT.1
  have hJ1 := jbOK.rel (tm := tm) hT hJ hF
  have fin : ∀ M1 : Nat → Nat → Int32, (∀ a b, (a < 12 ∨ (12 < a ∧ a < 20)) → M1 a b = M a b) → jbOK M1 n wk → rnOK (zst M1 0 2 (nI (tm + 1))) n per wk dl of own h (tm + 1) := by
    intro M1 hk hj
    have hk2 : ∀ a b, (a < 12 ∨ (12 < a ∧ a < 20)) → a ≠ 0 → zst M1 0 2 (nI (tm + 1)) a b = M a b := fun a b h1 h2 => by rw [zst_ap, if_neg (fun q => h2 q.1)]; exact hk a b h1
    refine ⟨hT.keep (hk2 _ _ (by omega) (by omega)) (fun t j ht => hk2 _ _ (by omega) (by omega)), by rw [zst_ap, if_pos ⟨rfl, rfl⟩], ?_, hh1, hh, fun u hu => ?_, ?_, fun t ht => ?_⟩
    · rw [zst_ap, if_neg (by omega)]; exact (hk _ _ (by omega)).trans hrr
    · rw [hk2 _ _ (by omega) (by omega)]; exact hown u hu
    · exact hj.keep hn (fun t b ht => by rw [zst_ap, if_neg (by omega)])
    · rw [hk2 _ _ (by omega) (by omega)]; exact hF t ht
  rcases hq : own (tm % h) with _ | t
  · rw [tkF_none hq]
    exact fin _ (fun a b hab => zRel_out hn (by omega)) hJ1
  · have htn := (hown (tm % h) (Nat.mod_lt _ (by omega))).2 t hq
    rcases hJ1 t htn with hop | ⟨hop, pl, hd, hpb, hhb, hpl, hhd⟩
    · rw [tkF_idle hq hop]
      exact fin _ (fun a b hab => zRel_out hn (by omega)) hJ1
    · have q := hT.2.2 t htn
      rw [tkF_busy hq hop hpl hhd hpb (by omega)]
      exact fin _ (fun a b hab => by rw [zSv_out (by omega) (by omega) (by omega) (by omega)]; exact zRel_out hn (by omega)) (jbOK.sv hn hJ1 htn hop hhb)
/-- several ticks: the memory, and how many were busy -/
def tkN (n : Nat) (per wk of : Nat → Nat) (own : Nat → Option Nat) (h tm : Nat) (M : Nat → Nat → Int32) : Nat → (Nat → Nat → Int32) × Nat
  | 0 => (M, 0)
  | i + 1 => ((tkF n per wk of own h (tm + i) (tkN n per wk of own h tm M i).1).1, if (tkF n per wk of own h (tm + i) (tkN n per wk of own h tm M i).1).2 = -1 then (tkN n per wk of own h tm M i).2 else (tkN n per wk of own h tm M i).2 + 1)
theorem rnOK.many {M : Nat → Nat → Int32} {n : Nat} {per wk dl of : Nat → Nat} {own : Nat → Option Nat} {h tm : Nat} (hR : rnOK M n per wk dl of own h tm) (i : Nat) : rnOK (tkN n per wk of own h tm M i).1 n per wk dl of own h (tm + i) ∧ (tkN n per wk of own h tm M i).2 ≤ i := by
  induction i with
  | zero => exact ⟨hR, Nat.le_refl _⟩
  | succ i ih =>
    refine ⟨ih.1.step, ?_⟩
    have e : (tkN n per wk of own h tm M (i + 1)).2 = (tkN n per wk of own h tm M i).2 ∨ (tkN n per wk of own h tm M (i + 1)).2 = (tkN n per wk of own h tm M i).2 + 1 := by
      by_cases c : (tkF n per wk of own h (tm + i) (tkN n per wk of own h tm M i).1).2 = -1
      · exact Or.inl (if_pos c)
      · exact Or.inr (if_neg c)
    have q := ih.2
    rcases e with e | e <;> omega

set_option maxHeartbeats 4000000 in
set_option maxRecDepth 100000 in
/-- ticks -/
theorem c_Ex_ticks (l : Launch) (hl0 : l.stackTraces = false) (D : va_G) (ca : Nat → ClassId) (ad : Nat → Nat) (M : Nat → Nat → Int32) (sa : Nat → Nat) (md : Nat) (n : Nat) (per wk dl of : Nat → Nat) (own : Nat → Option Nat) (h tm : Nat) (x : Int32) (hmd : M 0 0 = nI md) (hmb : md ≤ 1) (hR : md = 1 → rnOK M n per wk dl of own h tm) (htm : tm < 2 ^ 29) : xw_Xi l y_Ex_ticks (.code y_Ex_ticks b_Ex_ticks 4 (some .int) :: zG) { frames := 7, cells := 2, slots := 12, locals := 120 } D zCl (zT ca) [.ref (ad 0), .int x] (zW ca ad M) (fun U => zKX sa (va_A (zW ca ad M) U.heap.size) U U.heap) 2 12 (zW ca ad) (fun r M' => md = 1 ∧ ∃ q, 1 ≤ q ∧ q ≤ 500 ∧ x = nI q ∧ M' = (tkN n per wk of own h tm M q).1 ∧ r = nI (tkN n per wk of own h tm M q).2) (fun E M' => M' = M ∧ (md = 0 ∧ E = "java/lang/IllegalStateException" ∨ md = 1 ∧ E = "java/lang/IllegalArgumentException" ∧ ¬ (¬ x < nI 1 ∧ ¬ nI 500 < x))) := by
  intro sz
  refine xw_metX (cc := b_Ex_ticks) (maxL := 4) (ret := (some .int)) (by decide) rfl (Nat.le_of_ble_eq_true rfl) (fun p e s m args below meth c hr hlk hno hsz hKs C => ?_)
  rw [hsz] at hKs
  have hKs : zKX sa (va_A (zW ca ad M) sz) s s.heap := hKs
  have loop1 : md = 1 → ∀ q : Nat, 1 ≤ q → q ≤ 500 → x = nI q → ∀ (d : Nat) (i g : Nat) (M1 : Nat → Nat → Int32), q - i = d → i ≤ q → M1 = (tkN n per wk of own h tm M i).1 → g = (tkN n per wk of own h tm M i).2 → XW p l e { frames := 7, cells := 2, slots := 12, locals := 120 } s m args below meth c D zCl (va_A (zW ca ad M) sz) s.heap 4 (zW ca ad M1) (0 + 1) (0 + 6) (vx_MQ below (va_Qi (fun r M' => md = 1 ∧ ∃ q, 1 ≤ q ∧ q ≤ 500 ∧ x = nI q ∧ M' = (tkN n per wk of own h tm M q).1 ∧ r = nI (tkN n per wk of own h tm M q).2) (xw_B D zCl (zT ca) (va_A (zW ca ad M) sz) (zW ca ad)) (va_A (zW ca ad M) sz)) (xw_XC D zCl (zT ca) (va_A (zW ca ad M) sz) (zW ca ad) (fun E M' => M' = M ∧ (md = 0 ∧ E = "java/lang/IllegalStateException" ∨ md = 1 ∧ E = "java/lang/IllegalArgumentException" ∧ ¬ (¬ x < nI 1 ∧ ¬ nI 500 < x)))) args s 2 12 (va_A (zW ca ad M) sz)) 30 [(0, .ref (ad 0)), (1, .int (nI q)), (2, .int (nI g)), (3, .int (nI i))] [] := by
    intro hmd0 q hq1 hq2 hxq d
    have hRR := hR hmd0
    induction d using Nat.strongRecOn with
    | _ d ih =>
      intro i g M1 hd hi hM1 hg
      have hgi := (hRR.many i).2
      refine xw_iload_n C 3 d_Ex_ticks_30 rfl rfl (pc' := 31) rfl ?_
      refine xw_iload_n C 1 d_Ex_ticks_31 rfl rfl (pc' := 32) rfl ?_
      refine xw_icmp_ge C (tgt := 52) d_Ex_ticks_32 (by decide) (pc' := 35) rfl (fun h32 => ?_) (fun h32 => ?_)
      ·
        replace h32 : q ≤ i := (nI_leI (by omega) (by omega)).mp h32
        refine xw_iload_n C 2 d_Ex_ticks_52 rfl rfl (pc' := 53) rfl ?_
        refine xw_iretX C hr hlk (F := zW ca ad) M1 rfl ?_ d_Ex_ticks_53 (by decide) (by decide)
        exact ⟨hmd0, q, hq1, hq2, hxq, by rw [hM1, show i = q by omega], by rw [hg, show i = q by omega]⟩
      ·
        replace h32 : ¬ (q ≤ i) := fun hneg => h32 ((nI_leI (by omega) (by omega)).mpr hneg)
        refine xw_aload_n C 0 d_Ex_ticks_35 rfl rfl (pc' := 36) rfl ?_
        refine xw_callVi C (c_Ex_runTick l D ca ad M1 n per wk dl of own h (tm + i) (by rw [hM1]; exact (hRR.many i).1) (by omega)) ⟨zg_B C 0 k_506 k_24 k_509 q_Ex_runTick ⟨by decide, by decide⟩, C.2.2.2.2.1 _ k_508, C.2.2.2.2.1 _ k_8⟩ 0 zr_0 rfl rfl (fun _ _ _ _ h => h) (fun _ _ _ _ _ _ _ => trivial) rfl rfl (Nat.le_of_ble_eq_true rfl) d_Ex_ticks_36 ⟨by decide, by decide⟩ (pc' := 39) rfl (fun r51 M52 hp53 => ?_)
        obtain ⟨hM52, hre⟩ := hp53
        refine xw_iconst C (v := (-1)) d_Ex_ticks_39 (by decide) (pc' := 40) rfl ?_
        refine xw_icmp_eq C (tgt := 46) d_Ex_ticks_40 (by decide) (pc' := 43) rfl (fun h40 => ?_) (fun h40 => ?_)
        ·
          refine xw_iinc C 3 (v := nI (i + 1)) d_Ex_ticks_46 rfl (xp_inc1 _) (by decide) rfl (pc' := 49) rfl ?_
          refine xw_goto C (tgt := 30) d_Ex_ticks_49 (by decide) ?_
          refine xw_lv [1, 2, 3, 0] rfl ?_
          exact ih (q - (i + 1)) (by omega) (i + 1) g M52 rfl (by omega) (by rw [hM52, hM1]; rfl) (by rw [hM1] at hre; rw [hg]; exact (if_pos (by rw [← hre]; exact h40)).symm)
        ·
          refine xw_iinc C 2 (v := nI (g + 1)) d_Ex_ticks_43 rfl (xp_inc1 _) (by decide) rfl (pc' := 46) rfl ?_
          refine xw_iinc C 3 (v := nI (i + 1)) d_Ex_ticks_46 rfl (xp_inc1 _) (by decide) rfl (pc' := 49) rfl ?_
          refine xw_goto C (tgt := 30) d_Ex_ticks_49 (by decide) ?_
          refine xw_lv [2, 3, 1, 0] rfl ?_
          exact ih (q - (i + 1)) (by omega) (i + 1) (g + 1) M52 rfl (by omega) (by rw [hM52, hM1]; rfl) (by rw [hM1] at hre; rw [hg]; exact (if_neg (by rw [← hre]; exact h40)).symm)
  refine xw_lvE (lv' := [(0, .ref (ad 0)), (1, .int x)]) rfl ?_
  refine xw_aload_n C 0 d_Ex_ticks_0 rfl rfl (pc' := 1) rfl ?_
  refine xw_callXVv C (c_Ex_needRun l hl0 D ca ad M sa md hmd hmb) ⟨zg_B C 0 k_494 k_24 k_497 q_Ex_needRun ⟨by decide, by decide⟩, C.2.2.2.2.1 _ k_496, C.2.2.2.2.1 _ k_7⟩ 0 zr_0 rfl rfl (fun _ _ _ _ h => h.call) (fun _ _ _ hD hS hU hW => hKs.at C.2.2.2.2.2.2 hD hS hU hW) rfl rfl (Nat.le_of_ble_eq_true rfl) d_Ex_ticks_1 ⟨by decide, by decide⟩ (pc' := 4) rfl (fun E u hx => xx_out C hlk hno (F := zW ca ad) u rfl (by exact ⟨hx.1, Or.inl ⟨hx.2.2, hx.2.1⟩⟩) (by decide) (by decide)) (fun M2 hp3 => ?_)
  obtain ⟨hme, hmd0⟩ := hp3
  rw [hme]
  clear hme
  refine xw_iload_n C 1 d_Ex_ticks_4 rfl rfl (pc' := 5) rfl ?_
  refine xw_iconst C (v := nI 1) d_Ex_ticks_5 (by decide) (pc' := 6) rfl ?_
  refine xw_icmp_lt C (tgt := 16) d_Ex_ticks_6 (by decide) (pc' := 9) rfl (fun h6 => ?_) (fun h6 => ?_)
  ·
    refine xw_throwK C hl0 hlk hno (names := ["java/lang/RuntimeException", "java/lang/Exception"]) (by decide) (by decide) k_339 k_37 hKs (hKs.2.1 (140, "not 1 .. 500 ticks") (by decide)) xa_IAE_g xa_IAE_n xa_IAE_o d_Ex_ticks_16 d_Ex_ticks_19 d_Ex_ticks_20 d_Ex_ticks_22 d_Ex_ticks_25 (by decide) (by decide) (by decide) (by decide) (F := zW ca ad) M rfl ?_ (by decide) (by decide)
    exact ⟨rfl, Or.inr ⟨hmd0, rfl, fun h9 => by first | exact h9.1 h6 | exact h9.2 (Int32.not_le.mp h13)⟩⟩
  ·
    refine xw_iload_n C 1 d_Ex_ticks_9 rfl rfl (pc' := 10) rfl ?_
    refine xw_sipush C (v := nI 500) d_Ex_ticks_10 (by decide) (pc' := 13) rfl ?_
    refine xw_icmp_le C (tgt := 26) d_Ex_ticks_13 (by decide) (pc' := 16) rfl (fun h13 => ?_) (fun h13 => ?_)
    ·
      obtain ⟨q, hq1, hq2, he1⟩ := xp_rg (a := 1) (b := 500) (by omega) (by omega) h6 (Int32.not_lt.mpr h13)
      subst he1
      refine xw_iconst C (v := nI 0) d_Ex_ticks_26 (by decide) (pc' := 27) rfl ?_
      refine xw_istore_n C d_Ex_ticks_27 rfl (by decide) rfl (pc' := 28) rfl ?_
      refine xw_iconst C (v := nI 0) d_Ex_ticks_28 (by decide) (pc' := 29) rfl ?_
      refine xw_istore_n C d_Ex_ticks_29 rfl (by decide) rfl (pc' := 30) rfl ?_
      refine xw_lv [2, 3, 1, 0] rfl ?_
      exact loop1 hmd0 q (by omega) (by omega) rfl _ 0 0 M rfl (by omega) rfl rfl
    ·
      refine xw_throwK C hl0 hlk hno (names := ["java/lang/RuntimeException", "java/lang/Exception"]) (by decide) (by decide) k_339 k_37 hKs (hKs.2.1 (140, "not 1 .. 500 ticks") (by decide)) xa_IAE_g xa_IAE_n xa_IAE_o d_Ex_ticks_16 d_Ex_ticks_19 d_Ex_ticks_20 d_Ex_ticks_22 d_Ex_ticks_25 (by decide) (by decide) (by decide) (by decide) (F := zW ca ad) M rfl ?_ (by decide) (by decide)
      exact ⟨rfl, Or.inr ⟨hmd0, rfl, fun h9 => by first | exact h9.1 h6 | exact h9.2 (Int32.not_le.mp h13)⟩⟩
