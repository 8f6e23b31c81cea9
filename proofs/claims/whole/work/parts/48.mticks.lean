theorem zInY_pl {M : Nat → Nat → Int32} {t pl : Nat} : ∃ q, q < 64 ∧ zInY M t pl 52 t = nI q := by
  unfold zInY
  exact zStp_pl (by omega) (by omega) ⟨(pl + 1) % 64, Nat.mod_lt _ (by omega), by rw [zst_ap, if_pos ⟨rfl, rfl⟩]⟩
theorem zEnY_op {M : Nat → Nat → Int32} {t o : Nat} : zEnY M t o 49 t = nI 0 := by
  have e : zEnY1 M t o 49 t = nI 0 := by
    unfold zEnY1
    rw [zst_ap, if_neg (by omega), zst_ap, if_pos ⟨rfl, rfl⟩]
  unfold zEnY
  split
  · rw [zst_ap, if_neg (by omega)]; exact e
  · exact e
theorem jmOK.sv {M : Nat → Nat → Int32} {n t pl hd : Nat} {wk : Nat → Nat} (h : jmOK M n wk) (ho : M 49 t = nI 1) (hh : hd < wk t) : jmOK (zSvY M t pl hd (wk t)) n wk := by
  intro u hu
  by_cases c : u = t
  · subst c
    unfold zSvY
    by_cases d : sv_out (lowb 4 (M 47 pl)) hd (wk u) = 0
    · rw [if_pos d]
      have hlt : hd + 1 < wk u := by
        unfold sv_out at d
        by_cases g : mc_out (lowb 4 (M 47 pl)) = 0 ∧ wk u ≤ hd + 1
        · rw [if_pos g] at d; omega
        · rw [if_neg g] at d; omega
      obtain ⟨q, hq, hz⟩ := zInY_pl (M := M) (t := u) (pl := pl)
      refine Or.inr ⟨?_, q, hd + 1, hq, hlt, ?_, ?_⟩
      · rw [zst_ap, if_neg (by omega), zInY_out (by omega) (by omega) (by omega)]; exact ho
      · rw [zst_ap, if_neg (by omega)]; exact hz
      · rw [zst_ap, if_pos ⟨rfl, rfl⟩]
    · rw [if_neg d]
      exact Or.inl zEnY_op
  · have e : ∀ a, 48 < a → a < 53 → zSvY M t pl hd (wk t) a u = M a u := fun a h1 h2 => zSvY_out (by omega)
    rw [e 49 (by omega) (by omega), e 52 (by omega) (by omega), e 51 (by omega) (by omega)]
    exact h u hu
theorem rmOK.step {M : Nat → Nat → Int32} {n : Nat} {per wk dl of : Nat → Nat} {k : Nat} {st ln tk : Nat → Nat} {h tm : Nat} (hR : rmOK M n per wk dl of k st ln tk h tm) : rmOK (mdF n per wk of (fun x => sp_at st ln tk k x) h tm M).1 n per wk dl of k st ln tk h (tm + 1) := by
  obtain ⟨hT, hS, htime, hrd, hat, hJ, hF⟩ := hR
  have hJ1 := jmOK.rel (tm := tm) hT hJ hF
  have fin : ∀ M1 : Nat → Nat → Int32, (∀ a b, a < 48 → (a ≠ 38 ∨ b ≠ 4) → M1 a b = M a b) → M1 38 4 = nI (tm + 1) → jmOK M1 n wk → rmOK M1 n per wk dl of k st ln tk h (tm + 1) := by
    intro M1 hk ht hj
    refine ⟨hT.keep (hk _ _ (by omega) (by omega)) (fun a j h1 h2 => hk _ _ (by omega) (by omega)), hS.keep (hk _ _ (by omega) (by omega)) (fun a j h1 h2 => hk _ _ (by omega) (by omega)), ht, hrd, hat, hj, fun t h9 => ?_⟩
    rw [hk _ _ (by omega) (by omega)]; exact hF t h9
  have hz : ∀ a b, a < 48 → (a ≠ 38 ∨ b ≠ 4) → zst (zReY M of per tm n) 38 4 (nI (tm + 1)) a b = M a b := fun a b h1 h2 => by rw [zst_ap, if_neg (by omega)]; exact zReY_out (by omega)
  have hj : jmOK (zst (zReY M of per tm n) 38 4 (nI (tm + 1))) n wk := by
    intro t ht
    rw [zst_ap, if_neg (by omega), zst_ap, if_neg (by omega), zst_ap, if_neg (by omega)]
    exact hJ1 t ht
  rcases hq : sp_at st ln tk k (tm % h) with _ | t
  · rw [mdF_none (own := fun x => sp_at st ln tk k x) hq]
    dsimp only
    exact fin _ hz (by rw [zst_ap, if_pos ⟨rfl, rfl⟩]) hj
  · have htn := hat _ _ hq
    rcases hJ1 t htn with hop | ⟨hop, pl, hd, hpb, hhb, hpl, hhd⟩
    · rw [mdF_idle (own := fun x => sp_at st ln tk k x) hq hop]
      dsimp only
      exact fin _ hz (by rw [zst_ap, if_pos ⟨rfl, rfl⟩]) hj
    · have q := hT.2.2 t htn
      rw [mdF_busy (own := fun x => sp_at st ln tk k x) hq hop hpl hhd hpb (by omega)]
      dsimp only
      refine fin _ (fun a b h1 h2 => ?_) ?_ (jmOK.sv hj ?_ hhb)
      · rw [zSvY_out (by omega)]; exact hz a b h1 h2
      · rw [zSvY_out (by omega), zst_ap, if_pos ⟨rfl, rfl⟩]
      · rw [zst_ap, if_neg (by omega)]; exact hop
def mdN (n : Nat) (per wk of : Nat → Nat) (own : Nat → Option Nat) (h tm : Nat) (M : Nat → Nat → Int32) : Nat → (Nat → Nat → Int32) × Nat
  | 0 => (M, 0)
  | i + 1 => ((mdF n per wk of own h (tm + i) (mdN n per wk of own h tm M i).1).1, if (mdF n per wk of own h (tm + i) (mdN n per wk of own h tm M i).1).2 < 0 then (mdN n per wk of own h tm M i).2 else (mdN n per wk of own h tm M i).2 + 1)
theorem rmOK.many {M : Nat → Nat → Int32} {n : Nat} {per wk dl of : Nat → Nat} {k : Nat} {st ln tk : Nat → Nat} {h tm : Nat} (hR : rmOK M n per wk dl of k st ln tk h tm) (i : Nat) : rmOK (mdN n per wk of (fun x => sp_at st ln tk k x) h tm M i).1 n per wk dl of k st ln tk h (tm + i) ∧ (mdN n per wk of (fun x => sp_at st ln tk k x) h tm M i).2 ≤ i := by
  induction i with
  | zero => exact ⟨hR, Nat.le_refl _⟩
  | succ i ih =>
    refine ⟨ih.1.step, ?_⟩
    have e : (mdN n per wk of (fun x => sp_at st ln tk k x) h tm M (i + 1)).2 = (mdN n per wk of (fun x => sp_at st ln tk k x) h tm M i).2 ∨ (mdN n per wk of (fun x => sp_at st ln tk k x) h tm M (i + 1)).2 = (mdN n per wk of (fun x => sp_at st ln tk k x) h tm M i).2 + 1 := by
      by_cases c : (mdF n per wk of (fun x => sp_at st ln tk k x) h (tm + i) (mdN n per wk of (fun x => sp_at st ln tk k x) h tm M i).1).2 < 0
      · exact Or.inl (if_pos c)
      · exact Or.inr (if_neg c)
    have q := ih.2
    rcases e with e | e <;> omega
theorem rmOK.fault {M : Nat → Nat → Int32} {n : Nat} {per wk dl of : Nat → Nat} {k : Nat} {st ln tk : Nat → Nat} {h tm : Nat} {v : Int32} (hR : rmOK M n per wk dl of k st ln tk h tm) : rmOK (zst M 38 0 v) n per wk dl of k st ln tk h tm := by
  obtain ⟨hT, hS, htime, hrd, hat, hJ, hF⟩ := hR
  refine ⟨hT.keep (by rw [zst_ap, if_neg (by omega)]) (fun a j h1 h2 => by rw [zst_ap, if_neg (by omega)]), hS.keep (by rw [zst_ap, if_neg (by omega)]) (fun a j h1 h2 => by rw [zst_ap, if_neg (by omega)]), by rw [zst_ap, if_neg (by omega)]; exact htime, hrd, hat, fun t ht => ?_, fun t ht => ?_⟩
  · rw [zst_ap, if_neg (by omega), zst_ap, if_neg (by omega), zst_ap, if_neg (by omega)]; exact hJ t ht
  · rw [zst_ap, if_neg (by omega)]; exact hF t ht

set_option maxHeartbeats 4000000 in
set_option maxRecDepth 100000 in
/-- tick -/
theorem c_Md_tick (l : Launch) (D : va_G) (ca : Nat → ClassId) (ad : Nat → Nat) (M : Nat → Nat → Int32) (md n : Nat) (per wk dl of : Nat → Nat) (k : Nat) (st ln tk : Nat → Nat) (h tm : Nat) (hmd : M 38 1 = nI md) (hmb : md ≤ 1) (hR : md = 1 → rmOK M n per wk dl of k st ln tk h tm) (htm : tm < 2 ^ 30) : xw_Mi l y_Md_tick (.code y_Md_tick b_Md_tick 1 (some .int) :: zG) { frames := 2, cells := 0, slots := 0, locals := 48 } D zCl (zT ca) [.ref (ad 38)] (zW ca ad M) (fun _ => True) 0 0 (zW ca ad) (fun r M' => md = 0 ∧ M' = zst M 38 0 (nI 1) ∨ md = 1 ∧ M' = (mdF n per wk of (fun x => sp_at st ln tk k x) h tm (zst M 38 0 (nI 0))).1 ∧ r = (mdF n per wk of (fun x => sp_at st ln tk k x) h tm (zst M 38 0 (nI 0))).2) := by
  intro sz
  refine xw_met (cc := b_Md_tick) (maxL := 1) (ret := (some .int)) (by decide) rfl (Nat.le_of_ble_eq_true rfl) (fun p e s m args below meth c hr hlk hnm hsz hKs C => ?_)
  refine xw_lvE (lv' := [(0, .ref (ad 38))]) rfl ?_
  refine xw_aload_n C 0 d_Md_tick_0 rfl rfl (pc' := 1) rfl ?_
  refine xw_aload_n C 0 d_Md_tick_1 rfl rfl (pc' := 2) rfl ?_
  refine xw_get C u_Md 38 zr_38 rfl 1 (by decide) k_571 rfl rfl d_Md_tick_2 (pc' := 5) rfl ?_
  refine xw_topi (y := nI md) hmd ?_
  refine xw_if_eq C (tgt := 12) d_Md_tick_5 (by decide) (pc' := 8) rfl (fun h5 => ?_) (fun h5 => ?_)
  ·
    replace h5 : md = 0 := (xp_eq0 (by omega)).mp h5
    refine xw_iconst C (v := nI 1) d_Md_tick_12 (by decide) (pc' := 13) rfl ?_
    refine xw_callVi C (c_Md_refused l D ca ad M 1 (by omega)) ⟨zg_B C 1 k_646 k_31 k_649 q_Md_refused ⟨by decide, by decide⟩, C.2.2.2.2.1 _ k_648, C.2.2.2.2.1 _ k_10⟩ 38 zr_38 rfl rfl (fun _ _ _ _ h => h) (fun _ _ _ _ _ _ _ => trivial) rfl rfl (Nat.le_of_ble_eq_true rfl) d_Md_tick_13 ⟨by decide, by decide⟩ (pc' := 16) rfl (fun r1 M2 hp3 => ?_)
    obtain ⟨hM2, hre⟩ := hp3
    refine xw_topi (y := nI 1) (by rw [hre]; rfl) ?_
    clear hre
    refine xw_if_eq C (tgt := 23) d_Md_tick_16 (by decide) (pc' := 19) rfl (fun h16 => ?_) (fun h16 => ?_)
    ·
      replace h16 : 1 = 0 := (xp_eq0 (by omega)).mp h16
      omega
    ·
      replace h16 : ¬ (1 = 0) := fun hneg => h16 ((xp_eq0 (by omega)).mpr hneg)
      refine xw_iconst C (v := nI 0) d_Md_tick_19 (by decide) (pc' := 20) rfl ?_
      refine xw_goto C (tgt := 27) d_Md_tick_20 (by decide) ?_
      refine xw_iret C hr hlk (F := zW ca ad) M2 rfl ?_ d_Md_tick_27
      exact Or.inl ⟨by omega, hM2⟩
  ·
    replace h5 : ¬ (md = 0) := fun hneg => h5 ((xp_eq0 (by omega)).mpr hneg)
    refine xw_iconst C (v := nI 0) d_Md_tick_8 (by decide) (pc' := 9) rfl ?_
    refine xw_goto C (tgt := 13) d_Md_tick_9 (by decide) ?_
    refine xw_callVi C (c_Md_refused l D ca ad M 0 (by omega)) ⟨zg_B C 1 k_646 k_31 k_649 q_Md_refused ⟨by decide, by decide⟩, C.2.2.2.2.1 _ k_648, C.2.2.2.2.1 _ k_10⟩ 38 zr_38 rfl rfl (fun _ _ _ _ h => h) (fun _ _ _ _ _ _ _ => trivial) rfl rfl (Nat.le_of_ble_eq_true rfl) d_Md_tick_13 ⟨by decide, by decide⟩ (pc' := 16) rfl (fun r4 M5 hp6 => ?_)
    obtain ⟨hM5, hre⟩ := hp6
    refine xw_topi (y := nI 0) (by rw [hre]; rfl) ?_
    clear hre
    refine xw_if_eq C (tgt := 23) d_Md_tick_16 (by decide) (pc' := 19) rfl (fun h16 => ?_) (fun h16 => ?_)
    ·
      replace h16 : 0 = 0 := (xp_eq0 (by omega)).mp h16
      refine xw_aload_n C 0 d_Md_tick_23 rfl rfl (pc' := 24) rfl ?_
      refine xw_callVi C (c_Md_one l D ca ad M5 n per wk dl of k st ln tk h tm (by rw [hM5]; exact (hR (by omega)).fault) htm) ⟨zg_B C 0 k_734 k_31 k_737 q_Md_one ⟨by decide, by decide⟩, C.2.2.2.2.1 _ k_736, C.2.2.2.2.1 _ k_20⟩ 38 zr_38 rfl rfl (fun _ _ _ _ h => h) (fun _ _ _ _ _ _ _ => trivial) rfl rfl (Nat.le_of_ble_eq_true rfl) d_Md_tick_24 ⟨by decide, by decide⟩ (pc' := 27) rfl (fun r7 M8 hp9 => ?_)
      obtain ⟨hM8, hre⟩ := hp9
      refine xw_iret C hr hlk (F := zW ca ad) M8 rfl ?_ d_Md_tick_27
      rw [hM5] at hM8 hre
      exact Or.inr ⟨by omega, hM8, hre⟩
    ·
      replace h16 : ¬ (0 = 0) := fun hneg => h16 ((xp_eq0 (by omega)).mpr hneg)
      omega

set_option maxHeartbeats 4000000 in
set_option maxRecDepth 100000 in
/-- ticks -/
theorem c_Md_ticks (l : Launch) (D : va_G) (ca : Nat → ClassId) (ad : Nat → Nat) (M : Nat → Nat → Int32) (md n : Nat) (per wk dl of : Nat → Nat) (k : Nat) (st ln tk : Nat → Nat) (h tm : Nat) (x : Int32) (hmd : M 38 1 = nI md) (hmb : md ≤ 1) (hR : md = 1 → rmOK M n per wk dl of k st ln tk h tm) (htm : tm < 2 ^ 29) : xw_Mi l y_Md_ticks (.code y_Md_ticks b_Md_ticks 4 (some .int) :: zG) { frames := 2, cells := 0, slots := 0, locals := 48 } D zCl (zT ca) [.ref (ad 38), .int x] (zW ca ad M) (fun _ => True) 0 0 (zW ca ad) (fun r M' => md = 0 ∧ M' = zst M 38 0 (nI 1) ∨ md = 1 ∧ ¬ (¬ x < nI 1 ∧ ¬ nI 500 < x) ∧ M' = zst M 38 0 (nI 2) ∨ md = 1 ∧ ∃ q, 1 ≤ q ∧ q ≤ 500 ∧ x = nI q ∧ M' = (mdN n per wk of (fun x => sp_at st ln tk k x) h tm (zst M 38 0 (nI 0)) q).1 ∧ r = nI (mdN n per wk of (fun x => sp_at st ln tk k x) h tm (zst M 38 0 (nI 0)) q).2) := by
  intro sz
  refine xw_met (cc := b_Md_ticks) (maxL := 4) (ret := (some .int)) (by decide) rfl (Nat.le_of_ble_eq_true rfl) (fun p e s m args below meth c hr hlk hnm hsz hKs C => ?_)
  have loop1 : md = 1 → ∀ q : Nat, 1 ≤ q → q ≤ 500 → x = nI q → ∀ (d : Nat) (i g : Nat) (M1 : Nat → Nat → Int32), q - i = d → i ≤ q → M1 = (mdN n per wk of (fun x => sp_at st ln tk k x) h tm (zst M 38 0 (nI 0)) i).1 → g = (mdN n per wk of (fun x => sp_at st ln tk k x) h tm (zst M 38 0 (nI 0)) i).2 → XW p l e { frames := 2, cells := 0, slots := 0, locals := 48 } s m args below meth c D zCl (va_A (zW ca ad M) sz) s.heap 4 (zW ca ad M1) 0 0 (MQ below (va_Qi (fun r M' => md = 0 ∧ M' = zst M 38 0 (nI 1) ∨ md = 1 ∧ ¬ (¬ x < nI 1 ∧ ¬ nI 500 < x) ∧ M' = zst M 38 0 (nI 2) ∨ md = 1 ∧ ∃ q, 1 ≤ q ∧ q ≤ 500 ∧ x = nI q ∧ M' = (mdN n per wk of (fun x => sp_at st ln tk k x) h tm (zst M 38 0 (nI 0)) q).1 ∧ r = nI (mdN n per wk of (fun x => sp_at st ln tk k x) h tm (zst M 38 0 (nI 0)) q).2) (xw_B D zCl (zT ca) (va_A (zW ca ad M) sz) (zW ca ad)) (va_A (zW ca ad M) sz)) args s 0 0 (va_A (zW ca ad M) sz)) 41 [(0, .ref (ad 38)), (1, .int (nI q)), (2, .int (nI g)), (3, .int (nI i))] [] := by
    intro hmd0 q hq1 hq2 hxq d
    have hRR := hR hmd0
    induction d using Nat.strongRecOn with
    | _ d ih =>
      intro i g M1 hd hi hM1 hg
      have hgi := (hRR.fault (v := nI 0).many i).2
      refine xw_iload_n C 3 d_Md_ticks_41 rfl rfl (pc' := 42) rfl ?_
      refine xw_iload_n C 1 d_Md_ticks_42 rfl rfl (pc' := 43) rfl ?_
      refine xw_icmp_ge C (tgt := 67) d_Md_ticks_43 (by decide) (pc' := 46) rfl (fun h43 => ?_) (fun h43 => ?_)
      ·
        replace h43 : q ≤ i := (nI_leI (by omega) (by omega)).mp h43
        refine xw_iload_n C 2 d_Md_ticks_67 rfl rfl (pc' := 68) rfl ?_
        refine xw_iret C hr hlk (F := zW ca ad) M1 rfl ?_ d_Md_ticks_68
        exact Or.inr (Or.inr ⟨hmd0, q, hq1, hq2, hxq, by rw [hM1, show i = q by omega], by rw [hg, show i = q by omega]⟩)
      ·
        replace h43 : ¬ (q ≤ i) := fun hneg => h43 ((nI_leI (by omega) (by omega)).mpr hneg)
        refine xw_aload_n C 0 d_Md_ticks_46 rfl rfl (pc' := 47) rfl ?_
        refine xw_callVi C (c_Md_one l D ca ad M1 n per wk dl of k st ln tk h (tm + i) (by rw [hM1]; exact (hRR.fault.many i).1) (by omega)) ⟨zg_B C 0 k_734 k_31 k_737 q_Md_one ⟨by decide, by decide⟩, C.2.2.2.2.1 _ k_736, C.2.2.2.2.1 _ k_20⟩ 38 zr_38 rfl rfl (fun _ _ _ _ h => h) (fun _ _ _ _ _ _ _ => trivial) rfl rfl (Nat.le_of_ble_eq_true rfl) d_Md_ticks_47 ⟨by decide, by decide⟩ (pc' := 50) rfl (fun r51 M52 hp53 => ?_)
        obtain ⟨hM52, hre⟩ := hp53
        refine xw_if_lt C (tgt := 59) d_Md_ticks_50 (by decide) (pc' := 53) rfl (fun h50 => ?_) (fun h50 => ?_)
        ·
          refine xw_iload_n C 2 d_Md_ticks_59 rfl rfl (pc' := 60) rfl ?_
          refine xw_istore_n C d_Md_ticks_60 rfl (by decide) rfl (pc' := 61) rfl ?_
          refine xw_iinc C 3 (v := nI (i + 1)) d_Md_ticks_61 rfl (xp_inc1 _) (by decide) rfl (pc' := 64) rfl ?_
          refine xw_goto C (tgt := 41) d_Md_ticks_64 (by decide) ?_
          refine xw_lv [2, 3, 1, 0] rfl ?_
          exact ih (q - (i + 1)) (by omega) (i + 1) g M52 rfl (by omega) (by rw [hM52, hM1]; rfl) (by rw [hM1] at hre; rw [hg]; exact (if_pos (by rw [← hre]; exact h50)).symm)
        ·
          refine xw_iload_n C 2 d_Md_ticks_53 rfl rfl (pc' := 54) rfl ?_
          refine xw_iconst C (v := nI 1) d_Md_ticks_54 (by decide) (pc' := 55) rfl ?_
          refine xw_iadd C d_Md_ticks_55 (pc' := 56) rfl ?_
          refine xw_topi (y := nI (g + 1)) (nI_add _ _) ?_
          refine xw_goto C (tgt := 60) d_Md_ticks_56 (by decide) ?_
          refine xw_istore_n C d_Md_ticks_60 rfl (by decide) rfl (pc' := 61) rfl ?_
          refine xw_iinc C 3 (v := nI (i + 1)) d_Md_ticks_61 rfl (xp_inc1 _) (by decide) rfl (pc' := 64) rfl ?_
          refine xw_goto C (tgt := 41) d_Md_ticks_64 (by decide) ?_
          refine xw_lv [2, 3, 1, 0] rfl ?_
          exact ih (q - (i + 1)) (by omega) (i + 1) (g + 1) M52 rfl (by omega) (by rw [hM52, hM1]; rfl) (by rw [hM1] at hre; rw [hg]; exact (if_neg (by rw [← hre]; exact h50)).symm)
  refine xw_lvE (lv' := [(0, .ref (ad 38)), (1, .int x)]) rfl ?_
  refine xw_aload_n C 0 d_Md_ticks_0 rfl rfl (pc' := 1) rfl ?_
  refine xw_aload_n C 0 d_Md_ticks_1 rfl rfl (pc' := 2) rfl ?_
  refine xw_get C u_Md 38 zr_38 rfl 1 (by decide) k_571 rfl rfl d_Md_ticks_2 (pc' := 5) rfl ?_
  refine xw_topi (y := nI md) hmd ?_
  refine xw_if_ne C (tgt := 12) d_Md_ticks_5 (by decide) (pc' := 8) rfl (fun h5 => ?_) (fun h5 => ?_)
  ·
    replace h5 : ¬ (md = 0) := fun hneg => h5 ((xp_eq0 (by omega)).mpr hneg)
    refine xw_iload_n C 1 d_Md_ticks_12 rfl rfl (pc' := 13) rfl ?_
    refine xw_iconst C (v := nI 1) d_Md_ticks_13 (by decide) (pc' := 14) rfl ?_
    refine xw_icmp_lt C (tgt := 24) d_Md_ticks_14 (by decide) (pc' := 17) rfl (fun h14 => ?_) (fun h14 => ?_)
    ·
      refine xw_iconst C (v := nI 2) d_Md_ticks_24 (by decide) (pc' := 25) rfl ?_
      refine xw_goto C (tgt := 29) d_Md_ticks_25 (by decide) ?_
      refine xw_callVi C (c_Md_refused l D ca ad M 2 (by omega)) ⟨zg_B C 1 k_646 k_31 k_649 q_Md_refused ⟨by decide, by decide⟩, C.2.2.2.2.1 _ k_648, C.2.2.2.2.1 _ k_10⟩ 38 zr_38 rfl rfl (fun _ _ _ _ h => h) (fun _ _ _ _ _ _ _ => trivial) rfl rfl (Nat.le_of_ble_eq_true rfl) d_Md_ticks_29 ⟨by decide, by decide⟩ (pc' := 32) rfl (fun r1 M2 hp3 => ?_)
      obtain ⟨hM2, hre⟩ := hp3
      refine xw_topi (y := nI 1) (by rw [hre]; rfl) ?_
      clear hre
      refine xw_if_eq C (tgt := 37) d_Md_ticks_32 (by decide) (pc' := 35) rfl (fun h32 => ?_) (fun h32 => ?_)
      ·
        replace h32 : 1 = 0 := (xp_eq0 (by omega)).mp h32
        omega
      ·
        replace h32 : ¬ (1 = 0) := fun hneg => h32 ((xp_eq0 (by omega)).mpr hneg)
        refine xw_iconst C (v := nI 0) d_Md_ticks_35 (by decide) (pc' := 36) rfl ?_
        refine xw_iret C hr hlk (F := zW ca ad) M2 rfl ?_ d_Md_ticks_36
        exact Or.inr (Or.inl ⟨by omega, fun h9 => by first | exact h9.1 h14 | exact h9.2 (Int32.not_le.mp h21), hM2⟩)
    ·
      refine xw_iload_n C 1 d_Md_ticks_17 rfl rfl (pc' := 18) rfl ?_
      refine xw_sipush C (v := nI 500) d_Md_ticks_18 (by decide) (pc' := 21) rfl ?_
      refine xw_icmp_le C (tgt := 28) d_Md_ticks_21 (by decide) (pc' := 24) rfl (fun h21 => ?_) (fun h21 => ?_)
      ·
        refine xw_iconst C (v := nI 0) d_Md_ticks_28 (by decide) (pc' := 29) rfl ?_
        refine xw_callVi C (c_Md_refused l D ca ad M 0 (by omega)) ⟨zg_B C 1 k_646 k_31 k_649 q_Md_refused ⟨by decide, by decide⟩, C.2.2.2.2.1 _ k_648, C.2.2.2.2.1 _ k_10⟩ 38 zr_38 rfl rfl (fun _ _ _ _ h => h) (fun _ _ _ _ _ _ _ => trivial) rfl rfl (Nat.le_of_ble_eq_true rfl) d_Md_ticks_29 ⟨by decide, by decide⟩ (pc' := 32) rfl (fun r4 M5 hp6 => ?_)
        obtain ⟨hM5, hre⟩ := hp6
        refine xw_topi (y := nI 0) (by rw [hre]; rfl) ?_
        clear hre
        refine xw_if_eq C (tgt := 37) d_Md_ticks_32 (by decide) (pc' := 35) rfl (fun h32 => ?_) (fun h32 => ?_)
        ·
          replace h32 : 0 = 0 := (xp_eq0 (by omega)).mp h32
          obtain ⟨q, hq1, hq2, he1⟩ := xp_rg (a := 1) (b := 500) (by omega) (by omega) h14 (Int32.not_lt.mpr h21)
          subst he1
          refine xw_iconst C (v := nI 0) d_Md_ticks_37 (by decide) (pc' := 38) rfl ?_
          refine xw_istore_n C d_Md_ticks_38 rfl (by decide) rfl (pc' := 39) rfl ?_
          refine xw_iconst C (v := nI 0) d_Md_ticks_39 (by decide) (pc' := 40) rfl ?_
          refine xw_istore_n C d_Md_ticks_40 rfl (by decide) rfl (pc' := 41) rfl ?_
          refine xw_lv [2, 3, 1, 0] rfl ?_
          exact loop1 (by omega) q hq1 hq2 rfl _ 0 0 M5 rfl (by omega) (by rw [hM5]; rfl) rfl
        ·
          replace h32 : ¬ (0 = 0) := fun hneg => h32 ((xp_eq0 (by omega)).mpr hneg)
          omega
      ·
        refine xw_iconst C (v := nI 2) d_Md_ticks_24 (by decide) (pc' := 25) rfl ?_
        refine xw_goto C (tgt := 29) d_Md_ticks_25 (by decide) ?_
        refine xw_callVi C (c_Md_refused l D ca ad M 2 (by omega)) ⟨zg_B C 1 k_646 k_31 k_649 q_Md_refused ⟨by decide, by decide⟩, C.2.2.2.2.1 _ k_648, C.2.2.2.2.1 _ k_10⟩ 38 zr_38 rfl rfl (fun _ _ _ _ h => h) (fun _ _ _ _ _ _ _ => trivial) rfl rfl (Nat.le_of_ble_eq_true rfl) d_Md_ticks_29 ⟨by decide, by decide⟩ (pc' := 32) rfl (fun r7 M8 hp9 => ?_)
        obtain ⟨hM8, hre⟩ := hp9
        refine xw_topi (y := nI 1) (by rw [hre]; rfl) ?_
        clear hre
        refine xw_if_eq C (tgt := 37) d_Md_ticks_32 (by decide) (pc' := 35) rfl (fun h32 => ?_) (fun h32 => ?_)
        ·
          replace h32 : 1 = 0 := (xp_eq0 (by omega)).mp h32
          omega
        ·
          replace h32 : ¬ (1 = 0) := fun hneg => h32 ((xp_eq0 (by omega)).mpr hneg)
          refine xw_iconst C (v := nI 0) d_Md_ticks_35 (by decide) (pc' := 36) rfl ?_
          refine xw_iret C hr hlk (F := zW ca ad) M8 rfl ?_ d_Md_ticks_36
          exact Or.inr (Or.inl ⟨by omega, fun h9 => by first | exact h9.1 h14 | exact h9.2 (Int32.not_le.mp h21), hM8⟩)
  ·
    replace h5 : md = 0 := (xp_eq0 (by omega)).mp h5
    refine xw_iconst C (v := nI 1) d_Md_ticks_8 (by decide) (pc' := 9) rfl ?_
    refine xw_goto C (tgt := 29) d_Md_ticks_9 (by decide) ?_
    refine xw_callVi C (c_Md_refused l D ca ad M 1 (by omega)) ⟨zg_B C 1 k_646 k_31 k_649 q_Md_refused ⟨by decide, by decide⟩, C.2.2.2.2.1 _ k_648, C.2.2.2.2.1 _ k_10⟩ 38 zr_38 rfl rfl (fun _ _ _ _ h => h) (fun _ _ _ _ _ _ _ => trivial) rfl rfl (Nat.le_of_ble_eq_true rfl) d_Md_ticks_29 ⟨by decide, by decide⟩ (pc' := 32) rfl (fun r10 M11 hp12 => ?_)
    obtain ⟨hM11, hre⟩ := hp12
    refine xw_topi (y := nI 1) (by rw [hre]; rfl) ?_
    clear hre
    refine xw_if_eq C (tgt := 37) d_Md_ticks_32 (by decide) (pc' := 35) rfl (fun h32 => ?_) (fun h32 => ?_)
    ·
      replace h32 : 1 = 0 := (xp_eq0 (by omega)).mp h32
      omega
    ·
      replace h32 : ¬ (1 = 0) := fun hneg => h32 ((xp_eq0 (by omega)).mpr hneg)
      refine xw_iconst C (v := nI 0) d_Md_ticks_35 (by decide) (pc' := 36) rfl ?_
      refine xw_iret C hr hlk (F := zW ca ad) M11 rfl ?_ d_Md_ticks_36
      exact Or.inl ⟨by omega, hM11⟩
