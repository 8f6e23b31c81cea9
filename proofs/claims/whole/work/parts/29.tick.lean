theorem zJob_20 {M : Nat → Nat → Int32} {t : Nat} {fp tm : Int32} {b : Nat} : zJob M t fp tm (20 + t) b = if b = 3 then nI 1 else if b = 2 then tm else if b = 1 then nI 0 else if b = 0 then fp else M (20 + t) b := by
  unfold zJob
  rw [zst_ap, zst_ap, zst_ap, zst_ap, zfl_ap, if_neg (show ¬ (20 + t = 26 + t ∧ b < 4) by omega)]
  by_cases h3 : b = 3
  · rw [if_pos ⟨rfl, h3⟩, if_pos h3]
  · rw [if_neg (fun h => h3 h.2), if_neg h3]
    by_cases h2 : b = 2
    · rw [if_pos ⟨rfl, h2⟩, if_pos h2]
    · rw [if_neg (fun h => h2 h.2), if_neg h2]
      by_cases h1 : b = 1
      · rw [if_pos ⟨rfl, h1⟩, if_pos h1]
      · rw [if_neg (fun h => h1 h.2), if_neg h1]
        by_cases h0 : b = 0
        · rw [if_pos ⟨rfl, h0⟩, if_pos h0]
        · rw [if_neg (fun h => h0 h.2), if_neg h0]
theorem zJob_26 {M : Nat → Nat → Int32} {t : Nat} {fp tm : Int32} {b : Nat} : zJob M t fp tm (26 + t) b = if b < 4 then nI 0 else M (26 + t) b := by
  unfold zJob
  rw [zst_ap, if_neg (by omega), zst_ap, if_neg (by omega), zst_ap, if_neg (by omega), zst_ap, if_neg (by omega), zfl_ap]
  by_cases h : b < 4
  · rw [if_pos ⟨rfl, h⟩, if_pos h]
  · rw [if_neg (fun q => h q.2), if_neg h]
/-- a task's rows behind releaseJobs: new where it has come, else as they were -/
theorem zRel_yes {M : Nat → Nat → Int32} {of per : Nat → Nat} {tm i t : Nat} (hi : i ≤ 6) (ht : t < i) (hr : sp_rel (of t) (per t) tm) : (∀ b, zRel M of per tm i (20 + t) b = if b = 3 then nI 1 else if b = 2 then nI tm else if b = 1 then nI 0 else if b = 0 then M (14 + t) 4 else M (20 + t) b) ∧ (∀ b, zRel M of per tm i (26 + t) b = if b < 4 then nI 0 else M (26 + t) b) := by
  have key : ∀ i, i ≤ 6 → (i ≤ t → (∀ b, zRel M of per tm i (20 + t) b = M (20 + t) b) ∧ (∀ b, zRel M of per tm i (26 + t) b = M (26 + t) b)) ∧ (t < i → (∀ b, zRel M of per tm i (20 + t) b = if b = 3 then nI 1 else if b = 2 then nI tm else if b = 1 then nI 0 else if b = 0 then M (14 + t) 4 else M (20 + t) b) ∧ (∀ b, zRel M of per tm i (26 + t) b = if b < 4 then nI 0 else M (26 + t) b)) := by
    intro i
    induction i with
    | zero => exact fun _ => ⟨fun _ => ⟨fun _ => rfl, fun _ => rfl⟩, fun h => absurd h (Nat.not_lt_zero _)⟩
    | succ i ih =>
      intro hi6
      obtain ⟨a1, a2⟩ := ih (by omega)
      have e : zRel M of per tm (i + 1) = if sp_rel (of i) (per i) tm then zJob (zRel M of per tm i) i (M (14 + i) 4) (nI tm) else zRel M of per tm i := rfl
      refine ⟨fun h => ?_, fun h => ?_⟩
      · obtain ⟨b1, b2⟩ := a1 (by omega)
        rw [e]
        by_cases c : sp_rel (of i) (per i) tm
        · rw [if_pos c]
          exact ⟨fun b => by rw [zJob_out (by omega) (by omega)]; exact b1 b, fun b => by rw [zJob_out (by omega) (by omega)]; exact b2 b⟩
        · rw [if_neg c]; exact ⟨b1, b2⟩
      · rw [e]
        by_cases d : t = i
        · subst d
          obtain ⟨b1, b2⟩ := a1 (Nat.le_refl _)
          rw [if_pos hr]
          exact ⟨fun b => by rw [zJob_20, b1], fun b => by rw [zJob_26, b2]⟩
        · obtain ⟨b1, b2⟩ := a2 (by omega)
          by_cases c : sp_rel (of i) (per i) tm
          · rw [if_pos c]
            exact ⟨fun b => by rw [zJob_out (by omega) (by omega)]; exact b1 b, fun b => by rw [zJob_out (by omega) (by omega)]; exact b2 b⟩
          · rw [if_neg c]; exact ⟨b1, b2⟩
  exact (key i hi).2 ht
theorem zRel_no {M : Nat → Nat → Int32} {of per : Nat → Nat} {tm i t : Nat} (hi : i ≤ 6) (ht : t < 6) (hr : ¬ sp_rel (of t) (per t) tm) : (∀ b, zRel M of per tm i (20 + t) b = M (20 + t) b) ∧ (∀ b, zRel M of per tm i (26 + t) b = M (26 + t) b) := by
  induction i with
  | zero => exact ⟨fun _ => rfl, fun _ => rfl⟩
  | succ i ih =>
    obtain ⟨b1, b2⟩ := ih (by omega)
    have e : zRel M of per tm (i + 1) = if sp_rel (of i) (per i) tm then zJob (zRel M of per tm i) i (M (14 + i) 4) (nI tm) else zRel M of per tm i := rfl
    rw [e]
    by_cases c : sp_rel (of i) (per i) tm
    · have d : t ≠ i := fun h => hr (by rw [h]; exact c)
      rw [if_pos c]
      exact ⟨fun b => by rw [zJob_out (by omega) (by omega)]; exact b1 b, fun b => by rw [zJob_out (by omega) (by omega)]; exact b2 b⟩
    · rw [if_neg c]; exact ⟨b1, b2⟩
def jbOK (M : Nat → Nat → Int32) (n : Nat) (wk : Nat → Nat) : Prop := ∀ t, t < n → M (20 + t) 3 = nI 0 ∨ (M (20 + t) 3 = nI 1 ∧ ∃ pl hd, pl < 64 ∧ hd < wk t ∧ M (20 + t) 0 = nI pl ∧ M (20 + t) 1 = nI hd)
def fpOK (M : Nat → Nat → Int32) (n : Nat) : Prop := ∀ t, t < n → ∃ e, e < 64 ∧ M (14 + t) 4 = nI e
def rnOK (M : Nat → Nat → Int32) (n : Nat) (per wk dl of : Nat → Nat) (own : Nat → Option Nat) (h tm : Nat) : Prop := tkOK M n per wk dl of ∧ M 0 2 = nI tm ∧ M 0 1 = nI h ∧ 1 ≤ h ∧ h ≤ 240 ∧ (∀ u, u < h → M 13 u = oI (own u) ∧ ∀ t, own u = some t → t < n) ∧ jbOK M n wk ∧ fpOK M n
theorem jbOK.rel {M : Nat → Nat → Int32} {n tm : Nat} {per wk dl of : Nat → Nat} (hT : tkOK M n per wk dl of) (hJ : jbOK M n wk) (hF : fpOK M n) : jbOK (zRel M of per tm n) n wk := by
  intro t ht
  have hn := hT.1
  by_cases c : sp_rel (of t) (per t) tm
  · obtain ⟨a, _⟩ := zRel_yes (M := M) hn ht c
    obtain ⟨e, he, hf⟩ := hF t ht
    have q := hT.2.2 t ht
    refine Or.inr ⟨(a 3).trans rfl, e, 0, he, by omega, (a 0).trans hf, (a 1).trans rfl⟩
  · obtain ⟨a, _⟩ := zRel_no (M := M) (i := n) hn (by omega) c
    rw [a, a, a]
    exact hJ t ht
def tkF (n : Nat) (per wk of : Nat → Nat) (own : Nat → Option Nat) (h tm : Nat) (M : Nat → Nat → Int32) : (Nat → Nat → Int32) × Int32 := match own (tm % h) with
  | none => (zst (zRel M of per tm n) 0 2 (nI (tm + 1)), -1)
  | some t => if zRel M of per tm n (20 + t) 3 = nI 0 then (zst (zRel M of per tm n) 0 2 (nI (tm + 1)), -1)
    else (zst (zSv (zRel M of per tm n) t (zRel M of per tm n (20 + t) 0).toNatClampNeg (zRel M of per tm n (20 + t) 1).toNatClampNeg (wk t)) 0 2 (nI (tm + 1)), nI (t + 100 * sv_out (lowb 4 (zRel M of per tm n 11 (zRel M of per tm n (20 + t) 0).toNatClampNeg)) (zRel M of per tm n (20 + t) 1).toNatClampNeg (wk t)))
theorem tkF_none {n : Nat} {per wk of : Nat → Nat} {own : Nat → Option Nat} {h tm : Nat} {M : Nat → Nat → Int32} (ho : own (tm % h) = none) : tkF n per wk of own h tm M = (zst (zRel M of per tm n) 0 2 (nI (tm + 1)), -1) := by
  unfold tkF; rw [ho]
theorem tkF_idle {n : Nat} {per wk of : Nat → Nat} {own : Nat → Option Nat} {h tm t : Nat} {M : Nat → Nat → Int32} (ho : own (tm % h) = some t) (hc : zRel M of per tm n (20 + t) 3 = nI 0) : tkF n per wk of own h tm M = (zst (zRel M of per tm n) 0 2 (nI (tm + 1)), -1) := by
  unfold tkF; rw [ho]; exact if_pos hc
theorem tkF_busy {n : Nat} {per wk of : Nat → Nat} {own : Nat → Option Nat} {h tm t pl hd : Nat} {M : Nat → Nat → Int32} (ho : own (tm % h) = some t) (hc : zRel M of per tm n (20 + t) 3 = nI 1) (hp : zRel M of per tm n (20 + t) 0 = nI pl) (hq : zRel M of per tm n (20 + t) 1 = nI hd) (hpb : pl < 64) (hqb : hd < 2 ^ 20) :
    tkF n per wk of own h tm M = (zst (zSv (zRel M of per tm n) t pl hd (wk t)) 0 2 (nI (tm + 1)), nI (t + 100 * sv_out (lowb 4 (zRel M of per tm n 11 pl)) hd (wk t))) := by
  unfold tkF
  rw [ho]
  dsimp only
  rw [if_neg (by rw [hc]; decide), hp, hq, nI_clamp (by omega), nI_clamp (by omega)]
theorem zEnd_out {M : Nat → Nat → Int32} {t o : Nat} {tm : Int32} {a b : Nat} (h1 : ¬ (a = 20 + t ∧ b = 3)) (h2 : a ≠ 32 + t) : zEnd M t o tm a b = M a b := by
  unfold zEnd zEn2 zEn1
  split
  · rw [zst_ap, if_neg (fun h => h2 h.1), zst_ap, if_neg (fun h => h2 h.1), zst_ap, if_neg h1]
  · rw [zst_ap, if_neg (fun h => h2 h.1), zst_ap, if_neg h1]
theorem zSv_out {M : Nat → Nat → Int32} {t pl hd w a b : Nat} (h1 : a ≠ 20 + t) (h2 : a ≠ 26 + t) (h3 : a ≠ 12) (h4 : a ≠ 32 + t) : zSv M t pl hd w a b = M a b := by
  unfold zSv
  split
  · rw [zst_ap, if_neg (fun h => h1 h.1)]; exact zIns_out (fun h => h1 h.1) h2 h3
  · rw [zEnd_out (fun h => h1 h.1) h4, zst_ap, if_neg (fun h => h1 h.1)]; exact zIns_out (fun h => h1 h.1) h2 h3

set_option maxHeartbeats 4000000 in
set_option maxRecDepth 100000 in
/-- runTick() -/
theorem c_Ex_runTick (l : Launch) (D : va_G) (ca : Nat → ClassId) (ad : Nat → Nat) (M : Nat → Nat → Int32) (n : Nat) (per wk dl of : Nat → Nat) (own : Nat → Option Nat) (h tm : Nat) (hR : rnOK M n per wk dl of own h tm) (htm : tm < 2 ^ 30) : xw_Mi l y_Ex_runTick (.code y_Ex_runTick b_Ex_runTick 3 (some .int) :: zG) { frames := 4, cells := 0, slots := 0, locals := 91 } D zCl (zT ca) [.ref (ad 0)] (zW ca ad M) (fun _ => True) 0 0 (zW ca ad) (fun r M' => M' = (tkF n per wk of own h tm M).1 ∧ r = (tkF n per wk of own h tm M).2) := by
  intro sz
  refine xw_met (cc := b_Ex_runTick) (maxL := 3) (ret := (some .int)) (by decide) rfl (Nat.le_of_ble_eq_true rfl) (fun p e s m args below meth c hr hlk hnm hsz hKs C => ?_)
  obtain ⟨hT, hnow, hrr, hh1, hh, hown, hJ, hF⟩ := hR
  have hn6 := hT.1
  refine xw_lvE (lv' := [(0, .ref (ad 0))]) rfl ?_
  refine xw_aload_n C 0 d_Ex_runTick_0 rfl rfl (pc' := 1) rfl ?_
  refine xw_get C u_Ex 0 zr_0 rfl 0 (by decide) k_182 rfl rfl d_Ex_runTick_1 (pc' := 4) rfl ?_
  refine xw_aload_n C 0 d_Ex_runTick_4 rfl rfl (pc' := 5) rfl ?_
  refine xw_get C u_Ex 0 zr_0 rfl 7 (by decide) k_189 rfl rfl d_Ex_runTick_5 (pc' := 8) rfl ?_
  refine xw_topi (y := nI tm) hnow ?_
  refine xw_callVv C (c_Tl_releaseJobs l D ca ad M n per wk dl of tm hT (by omega)) ⟨zg_B C 1 k_510 k_25 k_513 q_Tl_releaseJobs ⟨by decide, by decide⟩, C.2.2.2.2.1 _ k_511, C.2.2.2.2.1 _ k_512⟩ 1 zr_1 rfl rfl (fun _ _ _ _ h => h) (fun _ _ _ _ _ _ _ => trivial) rfl rfl (Nat.le_of_ble_eq_true rfl) d_Ex_runTick_8 ⟨by decide, by decide⟩ (pc' := 11) rfl (fun M2 hp3 => ?_)
  have hM2 := hp3
  have hk1 : ∀ a b, (a < 20 ∨ 32 ≤ a) → M2 a b = M a b := fun a b hab => by rw [hM2]; exact zRel_out (by omega) hab
  have hn1 : M2 0 2 = nI tm := (hk1 _ _ (by omega)).trans hnow
  have hr1 : M2 0 1 = nI h := (hk1 _ _ (by omega)).trans hrr
  have hmod : tm % h < h := Nat.mod_lt _ (by omega)
  have hJ1 : jbOK M2 n wk := by rw [hM2]; exact jbOK.rel hT hJ hF
  refine xw_aload_n C 0 d_Ex_runTick_11 rfl rfl (pc' := 12) rfl ?_
  refine xw_get C u_Ex 0 zr_0 rfl 4 (by decide) k_186 rfl rfl d_Ex_runTick_12 (pc' := 15) rfl ?_
  refine xw_aload_n C 0 d_Ex_runTick_15 rfl rfl (pc' := 16) rfl ?_
  refine xw_get C u_Ex 0 zr_0 rfl 7 (by decide) k_189 rfl rfl d_Ex_runTick_16 (pc' := 19) rfl ?_
  refine xw_topi (y := nI tm) hn1 ?_
  refine xw_aload_n C 0 d_Ex_runTick_19 rfl rfl (pc' := 20) rfl ?_
  refine xw_get C u_Ex 0 zr_0 rfl 6 (by decide) k_188 rfl rfl d_Ex_runTick_20 (pc' := 23) rfl ?_
  refine xw_topi (y := nI h) hr1 ?_
  refine xw_callSi C (c_Ma_floorMod l D ca ad M2 tm h (by omega) (by omega) (by omega)) ⟨zg_B C 2 k_520 k_39 k_522 q_Ma_floorMod ⟨by decide, by decide⟩, C.2.2.2.2.1 _ k_521⟩ (fun _ _ _ _ h => h) (fun _ _ _ _ _ _ _ => trivial) rfl rfl (Nat.le_of_ble_eq_true rfl) d_Ex_runTick_23 ⟨by decide, by decide⟩ (pc' := 26) rfl (fun r4 M5 hp6 => ?_)
  obtain ⟨hme, hre⟩ := hp6
  rw [hme, hre]
  clear hme hre
  refine xw_iald C 13 0 zr_13 rfl (tm % h) rfl (by omega) (by decide) d_Ex_runTick_26 (pc' := 27) rfl ?_
  obtain ⟨ho1, ho2⟩ := hown (tm % h) hmod
  rcases hq : own (tm % h) with _ | t
  ·
    refine xw_topi (y := -1) ((hk1 _ _ (by omega)).trans (by rw [ho1, hq]; rfl)) ?_
    refine xw_istore_n C d_Ex_runTick_27 rfl (by decide) rfl (pc' := 28) rfl ?_
    refine xw_iconst C (v := (-1)) d_Ex_runTick_28 (by decide) (pc' := 29) rfl ?_
    refine xw_istore_n C d_Ex_runTick_29 rfl (by decide) rfl (pc' := 30) rfl ?_
    refine xw_iload_n C 1 d_Ex_runTick_30 rfl rfl (pc' := 31) rfl ?_
    refine xw_iconst C (v := (-1)) d_Ex_runTick_31 (by decide) (pc' := 32) rfl ?_
    refine xw_icmp_eq C (tgt := 72) d_Ex_runTick_32 (by decide) (pc' := 35) rfl (fun h32 => ?_) (fun h32 => ?_)
    ·
      refine xw_aload_n C 2 d_Ex_runTick_72 rfl rfl (pc' := 73) rfl ?_
      refine xw_dup C d_Ex_runTick_73 rfl (pc' := 74) rfl ?_
      refine xw_get C u_Ex 0 zr_0 rfl 7 (by decide) k_189 rfl rfl d_Ex_runTick_74 (pc' := 77) rfl ?_
      refine xw_topi (y := nI tm) hn1 ?_
      refine xw_iconst C (v := nI 1) d_Ex_runTick_77 (by decide) (pc' := 78) rfl ?_
      refine xw_iadd C d_Ex_runTick_78 (pc' := 79) rfl ?_
      refine xw_topi (y := nI (tm + 1)) (nI_add _ _) ?_
      obtain ⟨M7, hM7⟩ : ∃ zq, zq = zst M2 0 2 (nI (tm + 1)) := ⟨_, rfl⟩
      refine xw_put C u_Ex t_Ex t_Ex_ok n_Ex 0 zr_0 rfl 7 (by decide) k_189 rfl rfl (t_Ex_ok 7 (by decide)) rfl rfl (Nat.le_of_ble_eq_true rfl) (ws' := zW ca ad M7) (by rw [hM7]; exact zs_0_2 _) d_Ex_runTick_79 (pc' := 82) rfl ?_
      refine xw_iload_n C 0 d_Ex_runTick_82 rfl rfl (pc' := 83) rfl ?_
      refine xw_iret C hr hlk (F := zW ca ad) M7 rfl ?_ d_Ex_runTick_83
      rw [tkF_none hq, hM7, hM2]; exact ⟨rfl, rfl⟩
    ·
      exact absurd rfl h32
  ·
    refine xw_topi (y := nI t) ((hk1 _ _ (by omega)).trans (by rw [ho1, hq]; rfl)) ?_
    have htn := ho2 t hq
    refine xw_istore_n C d_Ex_runTick_27 rfl (by decide) rfl (pc' := 28) rfl ?_
    refine xw_iconst C (v := (-1)) d_Ex_runTick_28 (by decide) (pc' := 29) rfl ?_
    refine xw_istore_n C d_Ex_runTick_29 rfl (by decide) rfl (pc' := 30) rfl ?_
    refine xw_iload_n C 1 d_Ex_runTick_30 rfl rfl (pc' := 31) rfl ?_
    refine xw_iconst C (v := (-1)) d_Ex_runTick_31 (by decide) (pc' := 32) rfl ?_
    refine xw_icmp_eq C (tgt := 72) d_Ex_runTick_32 (by decide) (pc' := 35) rfl (fun h32 => ?_) (fun h32 => ?_)
    ·
      exact absurd h32 (xp_nem1 (by omega))
    ·
      refine xw_aload_n C 2 d_Ex_runTick_35 rfl rfl (pc' := 36) rfl ?_
      refine xw_get C u_Ex 0 zr_0 rfl 0 (by decide) k_182 rfl rfl d_Ex_runTick_36 (pc' := 39) rfl ?_
      refine xw_get C u_Tl 1 zr_1 rfl 0 (by decide) k_125 rfl rfl d_Ex_runTick_39 (pc' := 42) rfl ?_
      refine xw_iload_n C 1 d_Ex_runTick_42 rfl rfl (pc' := 43) rfl ?_
      refine xw_aald C 2 1 zr_2 rfl t rfl (by omega) (by decide) rfl d_Ex_runTick_43 (pc' := 44) rfl ?_
      refine xw_get C u_Tk (14 + t) (zr_Tk (t := t) (by omega)) rfl 5 (by decide) k_105 rfl rfl d_Ex_runTick_44 (pc' := 47) rfl ?_
      refine xw_get C u_Jb (20 + t) (zr_Jb (t := t) (by omega)) rfl 4 (by decide) k_77 rfl rfl d_Ex_runTick_47 (pc' := 50) rfl ?_
      rcases hJ1 t htn with hop | ⟨hop, pl, hd, hpb, hhb, hpl, hhd⟩
      ·
        refine xw_topi (y := nI 0) hop ?_
        refine xw_if_eq C (tgt := 72) d_Ex_runTick_50 (by decide) (pc' := 53) rfl (fun h50 => ?_) (fun h50 => ?_)
        ·
          replace h50 : 0 = 0 := (xp_eq0 (by omega)).mp h50
          refine xw_aload_n C 2 d_Ex_runTick_72 rfl rfl (pc' := 73) rfl ?_
          refine xw_dup C d_Ex_runTick_73 rfl (pc' := 74) rfl ?_
          refine xw_get C u_Ex 0 zr_0 rfl 7 (by decide) k_189 rfl rfl d_Ex_runTick_74 (pc' := 77) rfl ?_
          refine xw_topi (y := nI tm) hn1 ?_
          refine xw_iconst C (v := nI 1) d_Ex_runTick_77 (by decide) (pc' := 78) rfl ?_
          refine xw_iadd C d_Ex_runTick_78 (pc' := 79) rfl ?_
          refine xw_topi (y := nI (tm + 1)) (nI_add _ _) ?_
          obtain ⟨M8, hM8⟩ : ∃ zq, zq = zst M2 0 2 (nI (tm + 1)) := ⟨_, rfl⟩
          refine xw_put C u_Ex t_Ex t_Ex_ok n_Ex 0 zr_0 rfl 7 (by decide) k_189 rfl rfl (t_Ex_ok 7 (by decide)) rfl rfl (Nat.le_of_ble_eq_true rfl) (ws' := zW ca ad M8) (by rw [hM8]; exact zs_0_2 _) d_Ex_runTick_79 (pc' := 82) rfl ?_
          refine xw_iload_n C 0 d_Ex_runTick_82 rfl rfl (pc' := 83) rfl ?_
          refine xw_iret C hr hlk (F := zW ca ad) M8 rfl ?_ d_Ex_runTick_83
          rw [tkF_idle hq (by rw [← hM2]; exact hop), hM8, hM2]; exact ⟨rfl, rfl⟩
        ·
          replace h50 : ¬ (0 = 0) := fun hneg => h50 ((xp_eq0 (by omega)).mpr hneg)
          omega
      ·
        refine xw_topi (y := nI 1) hop ?_
        have hwt := hT.2.2 t htn
        refine xw_if_eq C (tgt := 72) d_Ex_runTick_50 (by decide) (pc' := 53) rfl (fun h50 => ?_) (fun h50 => ?_)
        ·
          replace h50 : 1 = 0 := (xp_eq0 (by omega)).mp h50
          omega
        ·
          replace h50 : ¬ (1 = 0) := fun hneg => h50 ((xp_eq0 (by omega)).mpr hneg)
          refine xw_iload_n C 1 d_Ex_runTick_53 rfl rfl (pc' := 54) rfl ?_
          refine xw_bipush C (v := nI 100) d_Ex_runTick_54 (by decide) (pc' := 56) rfl ?_
          refine xw_aload_n C 2 d_Ex_runTick_56 rfl rfl (pc' := 57) rfl ?_
          refine xw_aload_n C 2 d_Ex_runTick_57 rfl rfl (pc' := 58) rfl ?_
          refine xw_get C u_Ex 0 zr_0 rfl 0 (by decide) k_182 rfl rfl d_Ex_runTick_58 (pc' := 61) rfl ?_
          refine xw_get C u_Tl 1 zr_1 rfl 0 (by decide) k_125 rfl rfl d_Ex_runTick_61 (pc' := 64) rfl ?_
          refine xw_iload_n C 1 d_Ex_runTick_64 rfl rfl (pc' := 65) rfl ?_
          refine xw_aald C 2 1 zr_2 rfl t rfl (by omega) (by decide) rfl d_Ex_runTick_65 (pc' := 66) rfl ?_
          refine xw_callVi C (c_Ex_serve l D ca ad M2 t pl hd (wk t) (by omega) hpl hpb hhd (by omega) ((hk1 _ _ (by omega)).trans hwt.2.1) (by omega)) ⟨zg_B C 1 k_523 k_24 k_526 q_Ex_serve ⟨by decide, by decide⟩, C.2.2.2.2.1 _ k_525, C.2.2.2.2.1 _ k_9⟩ 0 zr_0 rfl rfl (fun _ _ _ _ h => h) (fun _ _ _ _ _ _ _ => trivial) rfl rfl (Nat.le_of_ble_eq_true rfl) d_Ex_runTick_66 ⟨by decide, by decide⟩ (pc' := 69) rfl (fun r9 M10 hp11 => ?_)
          obtain ⟨hM10, hre⟩ := hp11
          rw [hre]
          clear hre
          have hn1 : M10 0 2 = nI tm := by rw [hM10, zSv_out (by omega) (by omega) (by omega) (by omega)]; exact hn1
          refine xw_imul C d_Ex_runTick_69 (pc' := 70) rfl ?_
          refine xw_topi (y := nI (100 * (sv_out (lowb 4 (M2 11 pl)) hd (wk t)))) (pk_mul _ _) ?_
          refine xw_iadd C d_Ex_runTick_70 (pc' := 71) rfl ?_
          refine xw_topi (y := nI (t + (100 * (sv_out (lowb 4 (M2 11 pl)) hd (wk t))))) (nI_add _ _) ?_
          refine xw_istore_n C d_Ex_runTick_71 rfl (by decide) rfl (pc' := 72) rfl ?_
          refine xw_aload_n C 2 d_Ex_runTick_72 rfl rfl (pc' := 73) rfl ?_
          refine xw_dup C d_Ex_runTick_73 rfl (pc' := 74) rfl ?_
          refine xw_get C u_Ex 0 zr_0 rfl 7 (by decide) k_189 rfl rfl d_Ex_runTick_74 (pc' := 77) rfl ?_
          refine xw_topi (y := nI tm) hn1 ?_
          refine xw_iconst C (v := nI 1) d_Ex_runTick_77 (by decide) (pc' := 78) rfl ?_
          refine xw_iadd C d_Ex_runTick_78 (pc' := 79) rfl ?_
          refine xw_topi (y := nI (tm + 1)) (nI_add _ _) ?_
          obtain ⟨M12, hM12⟩ : ∃ zq, zq = zst M10 0 2 (nI (tm + 1)) := ⟨_, rfl⟩
          refine xw_put C u_Ex t_Ex t_Ex_ok n_Ex 0 zr_0 rfl 7 (by decide) k_189 rfl rfl (t_Ex_ok 7 (by decide)) rfl rfl (Nat.le_of_ble_eq_true rfl) (ws' := zW ca ad M12) (by rw [hM12]; exact zs_0_2 _) d_Ex_runTick_79 (pc' := 82) rfl ?_
          refine xw_iload_n C 0 d_Ex_runTick_82 rfl rfl (pc' := 83) rfl ?_
          refine xw_iret C hr hlk (F := zW ca ad) M12 rfl ?_ d_Ex_runTick_83
          rw [tkF_busy (pl := pl) (hd := hd) hq (by rw [← hM2]; exact hop) (by rw [← hM2]; exact hpl) (by rw [← hM2]; exact hhd) hpb (by omega), hM12, hM10, hM2]; exact ⟨rfl, rfl⟩
