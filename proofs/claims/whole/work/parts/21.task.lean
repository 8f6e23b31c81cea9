/-- a task comes at tm -/
abbrev sp_rel (o pr tm : Nat) : Prop := o ≤ tm ∧ (tm - o) % pr = 0
/-- how many of the m ticks from f on go to t -/
def sp_cnt (g : Nat → Int32) (t h f m : Nat) : Nat := xs_sm (fun j => if g ((f + j) % h) = nI t then 1 else 0) m
theorem sp_cnt_le (g : Nat → Int32) (t h f m : Nat) : sp_cnt g t h f m ≤ m := by
  unfold sp_cnt
  induction m with
  | zero => exact Nat.le_refl _
  | succ m ih =>
    show xs_sm _ m + (if g ((f + m) % h) = nI t then 1 else 0) ≤ m + 1
    by_cases c : g ((f + m) % h) = nI t
    · rw [if_pos c]; omega
    · rw [if_neg c]; omega
theorem sp_cnt_s1 {g : Nat → Int32} {t h f m : Nat} (c : g ((f + m) % h) = nI t) : sp_cnt g t h f (m + 1) = sp_cnt g t h f m + 1 := by
  show xs_sm _ m + (if g ((f + m) % h) = nI t then 1 else 0) = _
  rw [if_pos c]; rfl
theorem sp_cnt_s0 {g : Nat → Int32} {t h f m : Nat} (c : ¬ g ((f + m) % h) = nI t) : sp_cnt g t h f (m + 1) = sp_cnt g t h f m := by
  show xs_sm _ m + (if g ((f + m) % h) = nI t then 1 else 0) = _
  rw [if_neg c]; rfl
def sp_srv (g : Nat → Int32) (t h pr w d o : Nat) : Prop := ∀ k, k < h / pr → sp_cnt g t h (o + k * pr) d = w ∧ sp_cnt g t h (o + k * pr + d) (pr - d) = 0
/-- the memory behind Job.start, Task.forgetRun, Task.endJob -/
def zJob (M : Nat → Nat → Int32) (t : Nat) (fp tm : Int32) : Nat → Nat → Int32 := zst (zst (zst (zst (zfl M (26 + t) 4 (nI 0)) (20 + t) 0 fp) (20 + t) 1 (nI 0)) (20 + t) 2 tm) (20 + t) 3 (nI 1)
def zFor (M : Nat → Nat → Int32) (t : Nat) : Nat → Nat → Int32 := zfl (zst M (20 + t) 3 (nI 0)) (32 + t) 4 (nI 0)
def zEn1 (M : Nat → Nat → Int32) (t o : Nat) : Nat → Nat → Int32 := zst (zst M (20 + t) 3 (nI 0)) (32 + t) (o - 1) (zst M (20 + t) 3 (nI 0) (32 + t) (o - 1) + nI 1)
def zEn2 (M : Nat → Nat → Int32) (t : Nat) (tm : Int32) : Nat → Nat → Int32 := zst M (32 + t) 3 (if M (32 + t) 3 < tm - M (20 + t) 2 then tm - M (20 + t) 2 else M (32 + t) 3)
/-- the tasks' numbers -/
def tkOK (M : Nat → Nat → Int32) (n : Nat) (per wk dl of : Nat → Nat) : Prop := n ≤ 6 ∧ M 1 0 = nI n ∧ ∀ t, t < n → M (14 + t) 0 = nI (per t) ∧ M (14 + t) 1 = nI (wk t) ∧ M (14 + t) 2 = nI (dl t) ∧ M (14 + t) 3 = nI (of t) ∧ 1 ≤ wk t ∧ wk t ≤ dl t ∧ dl t ≤ per t ∧ per t ≤ 48 ∧ of t ≤ 48
theorem tkOK.per {M : Nat → Nat → Int32} {n : Nat} {per wk dl of : Nat → Nat} (h : tkOK M n per wk dl of) : ∀ t, t < n → M (14 + t) 0 = nI (per t) ∧ 1 ≤ per t ∧ per t ≤ 48 := fun t ht => by
  have q := h.2.2 t ht
  exact ⟨q.1, by omega, by omega⟩
theorem tkOK.keep {M M1 : Nat → Nat → Int32} {n : Nat} {per wk dl of : Nat → Nat} (h : tkOK M n per wk dl of) (h1 : M1 1 0 = M 1 0) (h2 : ∀ t j, t < 6 → M1 (14 + t) j = M (14 + t) j) : tkOK M1 n per wk dl of := by
  obtain ⟨a, b, c⟩ := h
  refine ⟨a, h1.trans b, fun t ht => ?_⟩
  have q := c t ht
  rw [h2 t 0 (by omega), h2 t 1 (by omega), h2 t 2 (by omega), h2 t 3 (by omega)]
  exact q

set_option maxHeartbeats 4000000 in
set_option maxRecDepth 100000 in
/-- releasesAt(tm) -/
theorem c_Tk_releasesAt (l : Launch) (D : va_G) (ca : Nat → ClassId) (ad : Nat → Nat) (M : Nat → Nat → Int32) (t tm o pr : Nat) (ht : t < 6) (htm : tm < 2 ^ 31) (ho : M (14 + t) 3 = nI o) (hob : o < 2 ^ 31) (hp : M (14 + t) 0 = nI pr) (hp1 : 1 ≤ pr) (hp2 : pr < 2 ^ 31) : xw_Mi l y_Tk_releasesAt (.code y_Tk_releasesAt b_Tk_releasesAt 2 (some .boolean) :: zG) { frames := 0, cells := 0, slots := 0, locals := 0 } D zCl (zT ca) [.ref (ad (14 + t)), .int (nI tm)] (zW ca ad M) (fun _ => True) 0 0 (zW ca ad) (fun r M' => M' = M ∧ (sp_rel o pr tm ∧ r = nI 1 ∨ ¬ sp_rel o pr tm ∧ r = nI 0)) := by
  intro sz
  refine xw_met (cc := b_Tk_releasesAt) (maxL := 2) (ret := (some .boolean)) (by decide) rfl (Nat.le_of_ble_eq_true rfl) (fun p e s m args below meth c hr hlk hnm hsz hKs C => ?_)
  refine xw_lvE (lv' := [(0, .ref (ad (14 + t))), (1, .int (nI tm))]) rfl ?_
  refine xw_iload_n C 1 d_Tk_releasesAt_0 rfl rfl (pc' := 1) rfl ?_
  refine xw_aload_n C 0 d_Tk_releasesAt_1 rfl rfl (pc' := 2) rfl ?_
  refine xw_get C u_Tk (14 + t) (zr_Tk (t := t) (by omega)) rfl 3 (by decide) k_99 rfl rfl d_Tk_releasesAt_2 (pc' := 5) rfl ?_
  refine xw_topi (y := nI o) ho ?_
  refine xw_icmp_lt C (tgt := 26) d_Tk_releasesAt_5 (by decide) (pc' := 8) rfl (fun h5 => ?_) (fun h5 => ?_)
  ·
    replace h5 : tm < o := (nI_ltI (by omega) (by omega)).mp h5
    refine xw_iconst C (v := nI 0) d_Tk_releasesAt_26 (by decide) (pc' := 27) rfl ?_
    refine xw_zret C hr hlk xp_n0 (F := zW ca ad) M rfl ?_ d_Tk_releasesAt_27
    exact ⟨rfl, Or.inr ⟨fun h9 => by obtain ⟨h8, h9⟩ := h9; omega, rfl⟩⟩
  ·
    replace h5 : ¬ (tm < o) := fun h9 => h5 ((nI_ltI (by omega) (by omega)).mpr h9)
    refine xw_iload_n C 1 d_Tk_releasesAt_8 rfl rfl (pc' := 9) rfl ?_
    refine xw_aload_n C 0 d_Tk_releasesAt_9 rfl rfl (pc' := 10) rfl ?_
    refine xw_get C u_Tk (14 + t) (zr_Tk (t := t) (by omega)) rfl 3 (by decide) k_99 rfl rfl d_Tk_releasesAt_10 (pc' := 13) rfl ?_
    refine xw_topi (y := nI o) ho ?_
    refine xw_isub C d_Tk_releasesAt_13 (pc' := 14) rfl ?_
    refine xw_topi (y := nI (tm - o)) (pk_sub (by omega)) ?_
    refine xw_aload_n C 0 d_Tk_releasesAt_14 rfl rfl (pc' := 15) rfl ?_
    refine xw_get C u_Tk (14 + t) (zr_Tk (t := t) (by omega)) rfl 0 (by decide) k_90 rfl rfl d_Tk_releasesAt_15 (pc' := 18) rfl ?_
    refine xw_topi (y := nI pr) hp ?_
    refine xw_irem C d_Tk_releasesAt_18 (nI_ne0 (by omega) (by omega)) (pc' := 19) rfl ?_
    refine xw_topi (y := nI ((tm - o) % pr)) (pk_rem (by omega) (by omega) (by omega)) ?_
    have hm18 : (tm - o) % pr < pr := Nat.mod_lt _ (by omega)
    refine xw_if_ne C (tgt := 26) d_Tk_releasesAt_19 (by decide) (pc' := 22) rfl (fun h19 => ?_) (fun h19 => ?_)
    ·
      replace h19 : ¬ (((tm - o) % pr) = 0) := fun h9 => h19 ((xp_eq0 (by omega)).mpr h9)
      refine xw_iconst C (v := nI 0) d_Tk_releasesAt_26 (by decide) (pc' := 27) rfl ?_
      refine xw_zret C hr hlk xp_n0 (F := zW ca ad) M rfl ?_ d_Tk_releasesAt_27
      exact ⟨rfl, Or.inr ⟨fun h9 => by obtain ⟨h8, h9⟩ := h9; omega, rfl⟩⟩
    ·
      replace h19 : ((tm - o) % pr) = 0 := (xp_eq0 (by omega)).mp h19
      refine xw_iconst C (v := nI 1) d_Tk_releasesAt_22 (by decide) (pc' := 23) rfl ?_
      refine xw_goto C (tgt := 27) d_Tk_releasesAt_23 (by decide) ?_
      refine xw_zret C hr hlk xp_n1 (F := zW ca ad) M rfl ?_ d_Tk_releasesAt_27
      exact ⟨rfl, Or.inl ⟨⟨by omega, h19⟩, rfl⟩⟩

set_option maxHeartbeats 4000000 in
set_option maxRecDepth 100000 in
/-- forgetRun() -/
theorem c_Tk_forgetRun (l : Launch) (D : va_G) (ca : Nat → ClassId) (ad : Nat → Nat) (M : Nat → Nat → Int32) (t : Nat) (ht : t < 6) : xw_Mv l y_Tk_forgetRun (.code y_Tk_forgetRun b_Tk_forgetRun 1 none :: zG) { frames := 1, cells := 0, slots := 0, locals := 23 } D zCl (zT ca) [.ref (ad (14 + t))] (zW ca ad M) (fun _ => True) 0 0 (zW ca ad) (fun M' => M' = zFor M t) := by
  intro sz
  refine xw_met (cc := b_Tk_forgetRun) (maxL := 1) (ret := none) (by decide) rfl (Nat.le_of_ble_eq_true rfl) (fun p e s m args below meth c hr hlk hnm hsz hKs C => ?_)
  refine xw_lvE (lv' := [(0, .ref (ad (14 + t)))]) rfl ?_
  refine xw_aload_n C 0 d_Tk_forgetRun_0 rfl rfl (pc' := 1) rfl ?_
  refine xw_get C u_Tk (14 + t) (zr_Tk (t := t) (by omega)) rfl 5 (by decide) k_103 rfl rfl d_Tk_forgetRun_1 (pc' := 4) rfl ?_
  refine xw_iconst C (v := nI 0) d_Tk_forgetRun_4 (by decide) (pc' := 5) rfl ?_
  obtain ⟨M1, hM1⟩ : ∃ z, z = zst M (20 + t) 3 (nI 0) := ⟨_, rfl⟩
  refine xw_put C u_Jb t_Jb t_Jb_ok n_Jb (20 + t) (zr_Jb (t := t) (by omega)) rfl 4 (by decide) k_76 rfl rfl (t_Jb_ok 4 (by decide)) xp_n0 rfl (Nat.le_of_ble_eq_true rfl) (ws' := zW ca ad M1) (by rw [hM1]; exact zs_Jb_3 (t := t) (by omega) _) d_Tk_forgetRun_5 (pc' := 8) rfl ?_
  refine xw_aload_n C 0 d_Tk_forgetRun_8 rfl rfl (pc' := 9) rfl ?_
  refine xw_get C u_Tk (14 + t) (zr_Tk (t := t) (by omega)) rfl 6 (by decide) k_106 rfl rfl d_Tk_forgetRun_9 (pc' := 12) rfl ?_
  refine xw_iconst C (v := nI 0) d_Tk_forgetRun_12 (by decide) (pc' := 13) rfl ?_
  refine xw_callSv C (c_Ar_fill l D ca ad M1 (32 + t) 4 (nI 0) (by omega) (fun _ => zC_ct (t := t) (by omega) _) (by decide)) ⟨zg_B C 2 k_363 k_38 k_365 q_Ar_fill ⟨by decide, by decide⟩, C.2.2.2.2.1 _ k_364⟩ (fun _ _ _ _ h => h) (fun _ _ _ _ _ _ _ => trivial) rfl rfl (Nat.le_of_ble_eq_true rfl) d_Tk_forgetRun_13 ⟨by decide, by decide⟩ (pc' := 16) rfl (fun M3 hp4 => ?_)
  have hM3 := hp4
  refine xw_vret C hr hlk (F := zW ca ad) M3 rfl ?_ d_Tk_forgetRun_16
  rw [hM3, hM1]; rfl

set_option maxHeartbeats 4000000 in
set_option maxRecDepth 100000 in
/-- start(fp, tm) -/
theorem c_Jb_start (l : Launch) (D : va_G) (ca : Nat → ClassId) (ad : Nat → Nat) (M : Nat → Nat → Int32) (t : Nat) (fp tm : Int32) (ht : t < 6) : xw_Mv l y_Jb_start (.code y_Jb_start b_Jb_start 3 none :: zG) { frames := 1, cells := 0, slots := 0, locals := 23 } D zCl (zT ca) [.ref (ad (20 + t)), .int fp, .int tm] (zW ca ad M) (fun _ => True) 0 0 (zW ca ad) (fun M' => M' = zJob M t fp tm) := by
  intro sz
  refine xw_met (cc := b_Jb_start) (maxL := 3) (ret := none) (by decide) rfl (Nat.le_of_ble_eq_true rfl) (fun p e s m args below meth c hr hlk hnm hsz hKs C => ?_)
  refine xw_lvE (lv' := [(0, .ref (ad (20 + t))), (1, .int fp), (2, .int tm)]) rfl ?_
  refine xw_aload_n C 0 d_Jb_start_0 rfl rfl (pc' := 1) rfl ?_
  refine xw_get C u_Jb (20 + t) (zr_Jb (t := t) (by omega)) rfl 0 (by decide) k_67 rfl rfl d_Jb_start_1 (pc' := 4) rfl ?_
  refine xw_iconst C (v := nI 0) d_Jb_start_4 (by decide) (pc' := 5) rfl ?_
  refine xw_callSv C (c_Ar_fill l D ca ad M (26 + t) 4 (nI 0) (by omega) (fun _ => zC_rg (t := t) (by omega) _) (by decide)) ⟨zg_B C 2 k_519 k_38 k_365 q_Ar_fill ⟨by decide, by decide⟩, C.2.2.2.2.1 _ k_364⟩ (fun _ _ _ _ h => h) (fun _ _ _ _ _ _ _ => trivial) rfl rfl (Nat.le_of_ble_eq_true rfl) d_Jb_start_5 ⟨by decide, by decide⟩ (pc' := 8) rfl (fun M2 hp3 => ?_)
  have hM2 := hp3
  refine xw_aload_n C 0 d_Jb_start_8 rfl rfl (pc' := 9) rfl ?_
  refine xw_iload_n C 1 d_Jb_start_9 rfl rfl (pc' := 10) rfl ?_
  obtain ⟨M4, hM4⟩ : ∃ z, z = zst M2 (20 + t) 0 fp := ⟨_, rfl⟩
  refine xw_put C u_Jb t_Jb t_Jb_ok n_Jb (20 + t) (zr_Jb (t := t) (by omega)) rfl 1 (by decide) k_70 rfl rfl (t_Jb_ok 1 (by decide)) rfl rfl (Nat.le_of_ble_eq_true rfl) (ws' := zW ca ad M4) (by rw [hM4]; exact zs_Jb_0 (t := t) (by omega) _) d_Jb_start_10 (pc' := 13) rfl ?_
  refine xw_aload_n C 0 d_Jb_start_13 rfl rfl (pc' := 14) rfl ?_
  refine xw_iconst C (v := nI 0) d_Jb_start_14 (by decide) (pc' := 15) rfl ?_
  obtain ⟨M5, hM5⟩ : ∃ z, z = zst M4 (20 + t) 1 (nI 0) := ⟨_, rfl⟩
  refine xw_put C u_Jb t_Jb t_Jb_ok n_Jb (20 + t) (zr_Jb (t := t) (by omega)) rfl 2 (by decide) k_71 rfl rfl (t_Jb_ok 2 (by decide)) rfl rfl (Nat.le_of_ble_eq_true rfl) (ws' := zW ca ad M5) (by rw [hM5]; exact zs_Jb_1 (t := t) (by omega) _) d_Jb_start_15 (pc' := 18) rfl ?_
  refine xw_aload_n C 0 d_Jb_start_18 rfl rfl (pc' := 19) rfl ?_
  refine xw_iload_n C 2 d_Jb_start_19 rfl rfl (pc' := 20) rfl ?_
  obtain ⟨M6, hM6⟩ : ∃ z, z = zst M5 (20 + t) 2 tm := ⟨_, rfl⟩
  refine xw_put C u_Jb t_Jb t_Jb_ok n_Jb (20 + t) (zr_Jb (t := t) (by omega)) rfl 3 (by decide) k_73 rfl rfl (t_Jb_ok 3 (by decide)) rfl rfl (Nat.le_of_ble_eq_true rfl) (ws' := zW ca ad M6) (by rw [hM6]; exact zs_Jb_2 (t := t) (by omega) _) d_Jb_start_20 (pc' := 23) rfl ?_
  refine xw_aload_n C 0 d_Jb_start_23 rfl rfl (pc' := 24) rfl ?_
  refine xw_iconst C (v := nI 1) d_Jb_start_24 (by decide) (pc' := 25) rfl ?_
  obtain ⟨M7, hM7⟩ : ∃ z, z = zst M6 (20 + t) 3 (nI 1) := ⟨_, rfl⟩
  refine xw_put C u_Jb t_Jb t_Jb_ok n_Jb (20 + t) (zr_Jb (t := t) (by omega)) rfl 4 (by decide) k_75 rfl rfl (t_Jb_ok 4 (by decide)) xp_n1 rfl (Nat.le_of_ble_eq_true rfl) (ws' := zW ca ad M7) (by rw [hM7]; exact zs_Jb_3 (t := t) (by omega) _) d_Jb_start_25 (pc' := 28) rfl ?_
  refine xw_vret C hr hlk (F := zW ca ad) M7 rfl ?_ d_Jb_start_28
  subst hM7 hM6 hM5 hM4
  rw [hM2]; rfl

set_option maxHeartbeats 4000000 in
set_option maxRecDepth 100000 in
/-- endJob(o, tm) -/
theorem c_Tk_endJob (l : Launch) (D : va_G) (ca : Nat → ClassId) (ad : Nat → Nat) (M : Nat → Nat → Int32) (t o : Nat) (tm : Int32) (ht : t < 6) (ho1 : 1 ≤ o) (ho3 : o ≤ 3) : xw_Mv l y_Tk_endJob (.code y_Tk_endJob b_Tk_endJob 3 none :: zG) { frames := 1, cells := 0, slots := 0, locals := 21 } D zCl (zT ca) [.ref (ad (14 + t)), .int (nI o), .int tm] (zW ca ad M) (fun _ => True) 0 0 (zW ca ad) (fun M' => M' = if o = 1 then zEn2 (zEn1 M t o) t tm else zEn1 M t o) := by
  intro sz
  refine xw_met (cc := b_Tk_endJob) (maxL := 3) (ret := none) (by decide) rfl (Nat.le_of_ble_eq_true rfl) (fun p e s m args below meth c hr hlk hnm hsz hKs C => ?_)
  refine xw_lvE (lv' := [(0, .ref (ad (14 + t))), (1, .int (nI o)), (2, .int tm)]) rfl ?_
  refine xw_aload_n C 0 d_Tk_endJob_0 rfl rfl (pc' := 1) rfl ?_
  refine xw_get C u_Tk (14 + t) (zr_Tk (t := t) (by omega)) rfl 5 (by decide) k_103 rfl rfl d_Tk_endJob_1 (pc' := 4) rfl ?_
  refine xw_iconst C (v := nI 0) d_Tk_endJob_4 (by decide) (pc' := 5) rfl ?_
  obtain ⟨M1, hM1⟩ : ∃ z, z = zst M (20 + t) 3 (nI 0) := ⟨_, rfl⟩
  refine xw_put C u_Jb t_Jb t_Jb_ok n_Jb (20 + t) (zr_Jb (t := t) (by omega)) rfl 4 (by decide) k_76 rfl rfl (t_Jb_ok 4 (by decide)) xp_n0 rfl (Nat.le_of_ble_eq_true rfl) (ws' := zW ca ad M1) (by rw [hM1]; exact zs_Jb_3 (t := t) (by omega) _) d_Tk_endJob_5 (pc' := 8) rfl ?_
  refine xw_aload_n C 0 d_Tk_endJob_8 rfl rfl (pc' := 9) rfl ?_
  refine xw_get C u_Tk (14 + t) (zr_Tk (t := t) (by omega)) rfl 6 (by decide) k_106 rfl rfl d_Tk_endJob_9 (pc' := 12) rfl ?_
  refine xw_iload_n C 1 d_Tk_endJob_12 rfl rfl (pc' := 13) rfl ?_
  refine xw_iconst C (v := nI 1) d_Tk_endJob_13 (by decide) (pc' := 14) rfl ?_
  refine xw_isub C d_Tk_endJob_14 (pc' := 15) rfl ?_
  refine xw_topi (y := nI (o - 1)) (pk_sub (by omega)) ?_
  refine xw_dup2_11 C d_Tk_endJob_15 rfl rfl (pc' := 16) rfl ?_
  refine xw_iald C (32 + t) 0 (zr_ct (t := t) (by omega)) rfl (o - 1) rfl (by omega) (by decide) d_Tk_endJob_16 (pc' := 17) rfl ?_
  refine xw_iconst C (v := nI 1) d_Tk_endJob_17 (by decide) (pc' := 18) rfl ?_
  refine xw_iadd C d_Tk_endJob_18 (pc' := 19) rfl ?_
  obtain ⟨M2, hM2⟩ : ∃ z, z = zst M1 (32 + t) (o - 1) ((M1 (32 + t) (o - 1)) + (nI 1)) := ⟨_, rfl⟩
  refine xw_iast C (32 + t) 0 (zr_ct (t := t) (by omega)) rfl (o - 1) rfl (by omega) (by decide) (ws' := zW ca ad M2) (by rw [hM2]; exact zs_ct (t := t) (by omega) _ _) d_Tk_endJob_19 (pc' := 20) rfl ?_
  refine xw_iload_n C 1 d_Tk_endJob_20 rfl rfl (pc' := 21) rfl ?_
  refine xw_iconst C (v := nI 1) d_Tk_endJob_21 (by decide) (pc' := 22) rfl ?_
  refine xw_icmp_ne C (tgt := 49) d_Tk_endJob_22 (by decide) (pc' := 25) rfl (fun h22 => ?_) (fun h22 => ?_)
  ·
    replace h22 : ¬ (o = 1) := fun h9 => h22 ((nI_eq (by omega) (by omega)).mpr h9)
    refine xw_vret C hr hlk (F := zW ca ad) M2 rfl ?_ d_Tk_endJob_49
    rw [if_neg h22]
    subst hM2 hM1
    rfl
  ·
    replace h22 : o = 1 := (nI_eq (by omega) (by omega)).mp h22
    refine xw_aload_n C 0 d_Tk_endJob_25 rfl rfl (pc' := 26) rfl ?_
    refine xw_get C u_Tk (14 + t) (zr_Tk (t := t) (by omega)) rfl 6 (by decide) k_106 rfl rfl d_Tk_endJob_26 (pc' := 29) rfl ?_
    refine xw_iconst C (v := nI 3) d_Tk_endJob_29 (by decide) (pc' := 30) rfl ?_
    refine xw_aload_n C 0 d_Tk_endJob_30 rfl rfl (pc' := 31) rfl ?_
    refine xw_get C u_Tk (14 + t) (zr_Tk (t := t) (by omega)) rfl 6 (by decide) k_106 rfl rfl d_Tk_endJob_31 (pc' := 34) rfl ?_
    refine xw_iconst C (v := nI 3) d_Tk_endJob_34 (by decide) (pc' := 35) rfl ?_
    refine xw_iald C (32 + t) 0 (zr_ct (t := t) (by omega)) rfl 3 rfl (by omega) (by decide) d_Tk_endJob_35 (pc' := 36) rfl ?_
    refine xw_iload_n C 2 d_Tk_endJob_36 rfl rfl (pc' := 37) rfl ?_
    refine xw_aload_n C 0 d_Tk_endJob_37 rfl rfl (pc' := 38) rfl ?_
    refine xw_get C u_Tk (14 + t) (zr_Tk (t := t) (by omega)) rfl 5 (by decide) k_103 rfl rfl d_Tk_endJob_38 (pc' := 41) rfl ?_
    refine xw_get C u_Jb (20 + t) (zr_Jb (t := t) (by omega)) rfl 3 (by decide) k_74 rfl rfl d_Tk_endJob_41 (pc' := 44) rfl ?_
    refine xw_isub C d_Tk_endJob_44 (pc' := 45) rfl ?_
    refine xw_callSi C (c_Ma_max l D ca ad M2 (M2 (32 + t) 3) (tm - (M2 (20 + t) 2))) ⟨zg_B C 2 k_541 k_39 k_402 q_Ma_max ⟨by decide, by decide⟩, C.2.2.2.2.1 _ k_401⟩ (fun _ _ _ _ h => h) (fun _ _ _ _ _ _ _ => trivial) rfl rfl (Nat.le_of_ble_eq_true rfl) d_Tk_endJob_45 ⟨by decide, by decide⟩ (pc' := 48) rfl (fun r3 M4 hp5 => ?_)
    obtain ⟨hme, hre⟩ := hp5
    rw [hme, hre]
    clear hme hre
    obtain ⟨M6, hM6⟩ : ∃ z, z = zst M2 (32 + t) 3 (if (M2 (32 + t) 3) < (tm - (M2 (20 + t) 2)) then tm - (M2 (20 + t) 2) else M2 (32 + t) 3) := ⟨_, rfl⟩
    refine xw_iast C (32 + t) 0 (zr_ct (t := t) (by omega)) rfl 3 rfl (by omega) (by decide) (ws' := zW ca ad M6) (by rw [hM6]; exact zs_ct (t := t) (by omega) _ _) d_Tk_endJob_48 (pc' := 49) rfl ?_
    refine xw_vret C hr hlk (F := zW ca ad) M6 rfl ?_ d_Tk_endJob_49
    rw [if_pos h22]
    subst hM6 hM2 hM1
    rfl

set_option maxHeartbeats 4000000 in
set_option maxRecDepth 100000 in
/-- ticksOf: how many of mm ticks from f on are t's -/
theorem c_Tk_ticksOf (l : Launch) (D : va_G) (ca : Nat → ClassId) (ad : Nat → Nat) (M : Nat → Nat → Int32) (t h f mm : Nat) (hh1 : 1 ≤ h) (hh : h ≤ 240) (hf : f < 2 ^ 20) (hm : mm < 2 ^ 20) : xw_Mi l y_Tk_ticksOf (.code y_Tk_ticksOf b_Tk_ticksOf 7 (some .int) :: zG) { frames := 0, cells := 0, slots := 0, locals := 0 } D zCl (zT ca) [.int (nI t), .int (nI f), .int (nI mm), .ref (ad 13), .int (nI h)] (zW ca ad M) (fun _ => True) 0 0 (zW ca ad) (fun r M' => M' = M ∧ r = nI (sp_cnt (M 13) t h f mm)) := by
  intro sz
  refine xw_met (cc := b_Tk_ticksOf) (maxL := 7) (ret := (some .int)) (by decide) rfl (Nat.le_of_ble_eq_true rfl) (fun p e s m args below meth c hr hlk hnm hsz hKs C => ?_)
  have loop1 : ∀ (d : Nat) (i q : Nat), mm - i = d → i ≤ mm → q = sp_cnt (M 13) t h f i → XW p l e { frames := 0, cells := 0, slots := 0, locals := 0 } s m args below meth c D zCl (va_A (zW ca ad M) sz) s.heap 7 (zW ca ad M) 0 0 (MQ below (va_Qi (fun r M' => M' = M ∧ r = nI (sp_cnt (M 13) t h f mm)) (xw_B D zCl (zT ca) (va_A (zW ca ad M) sz) (zW ca ad)) (va_A (zW ca ad M) sz)) args s 0 0 (va_A (zW ca ad M) sz)) 6 [(0, .int (nI t)), (1, .int (nI f)), (2, .int (nI mm)), (3, .ref (ad 13)), (4, .int (nI h)), (5, .int (nI q)), (6, .int (nI (f + i)))] [] := by
    intro d
    induction d using Nat.strongRecOn with
    | _ d ih =>
      intro i q hd hi hq
      refine xw_iload C 6 d_Tk_ticksOf_6 rfl (pc' := 8) rfl ?_
      refine xw_iload_n C 1 d_Tk_ticksOf_8 rfl rfl (pc' := 9) rfl ?_
      refine xw_iload_n C 2 d_Tk_ticksOf_9 rfl rfl (pc' := 10) rfl ?_
      refine xw_iadd C d_Tk_ticksOf_10 (pc' := 11) rfl ?_
      refine xw_topi (y := nI (f + mm)) (nI_add _ _) ?_
      have hqi := sp_cnt_le (M 13) t h f i
      refine xw_icmp_ge C (tgt := 34) d_Tk_ticksOf_11 (by decide) (pc' := 14) rfl (fun h11 => ?_) (fun h11 => ?_)
      ·
        replace h11 : (f + mm) ≤ (f + i) := (nI_leI (by omega) (by omega)).mp h11
        refine xw_iload C 5 d_Tk_ticksOf_34 rfl (pc' := 36) rfl ?_
        refine xw_iret C hr hlk (F := zW ca ad) M rfl ?_ d_Tk_ticksOf_36
        exact ⟨rfl, by rw [hq, show i = mm by omega]⟩
      ·
        replace h11 : ¬ ((f + mm) ≤ (f + i)) := fun h9 => h11 ((nI_leI (by omega) (by omega)).mpr h9)
        refine xw_aload_n C 3 d_Tk_ticksOf_14 rfl rfl (pc' := 15) rfl ?_
        refine xw_iload C 6 d_Tk_ticksOf_15 rfl (pc' := 17) rfl ?_
        refine xw_iload C 4 d_Tk_ticksOf_17 rfl (pc' := 19) rfl ?_
        refine xw_irem C d_Tk_ticksOf_19 (nI_ne0 (by omega) (by omega)) (pc' := 20) rfl ?_
        refine xw_topi (y := nI ((f + i) % h)) (pk_rem (by omega) (by omega) (by omega)) ?_
        have hm19 : (f + i) % h < h := Nat.mod_lt _ (by omega)
        refine xw_iald C 13 0 zr_13 rfl ((f + i) % h) rfl (by omega) (by decide) d_Tk_ticksOf_20 (pc' := 21) rfl ?_
        refine xw_iload_n C 0 d_Tk_ticksOf_21 rfl rfl (pc' := 22) rfl ?_
        refine xw_icmp_ne C (tgt := 28) d_Tk_ticksOf_22 (by decide) (pc' := 25) rfl (fun h22 => ?_) (fun h22 => ?_)
        ·
          refine xw_iinc C 6 (v := nI ((f + i) + 1)) d_Tk_ticksOf_28 rfl (xp_inc1 _) (by decide) rfl (pc' := 31) rfl ?_
          refine xw_goto C (tgt := 6) d_Tk_ticksOf_31 (by decide) ?_
          refine xw_lv [1, 2, 3, 4, 5, 6, 0] rfl ?_
          exact ih (mm - (i + 1)) (by omega) (i + 1) q rfl (by omega) (by rw [hq]; exact (sp_cnt_s0 h22).symm)
        ·
          refine xw_iinc C 5 (v := nI (q + 1)) d_Tk_ticksOf_25 rfl (xp_inc1 _) (by decide) rfl (pc' := 28) rfl ?_
          refine xw_iinc C 6 (v := nI ((f + i) + 1)) d_Tk_ticksOf_28 rfl (xp_inc1 _) (by decide) rfl (pc' := 31) rfl ?_
          refine xw_goto C (tgt := 6) d_Tk_ticksOf_31 (by decide) ?_
          refine xw_lv [2, 3, 4, 5, 6, 1, 0] rfl ?_
          exact ih (mm - (i + 1)) (by omega) (i + 1) (q + 1) rfl (by omega) (by rw [hq]; exact (sp_cnt_s1 h22).symm)
  refine xw_lvE (lv' := [(0, .int (nI t)), (1, .int (nI f)), (2, .int (nI mm)), (3, .ref (ad 13)), (4, .int (nI h))]) rfl ?_
  refine xw_iconst C (v := nI 0) d_Tk_ticksOf_0 (by decide) (pc' := 1) rfl ?_
  refine xw_istore C d_Tk_ticksOf_1 (by decide) rfl (pc' := 3) rfl ?_
  refine xw_iload_n C 2 d_Tk_ticksOf_3 rfl rfl (pc' := 4) rfl ?_
  refine xw_istore C d_Tk_ticksOf_4 (by decide) rfl (pc' := 6) rfl ?_
  refine xw_lv [2, 3, 4, 5, 6, 1, 0] rfl ?_
  exact loop1 mm 0 0 rfl (by omega) rfl

set_option maxHeartbeats 4000000 in
set_option maxRecDepth 100000 in
/-- isServed -/
theorem c_Tk_isServed (l : Launch) (D : va_G) (ca : Nat → ClassId) (ad : Nat → Nat) (M : Nat → Nat → Int32) (t h pr wk dl of : Nat) (ht : t < 6) (hh1 : 1 ≤ h) (hh : h ≤ 240) (hpr : M (14 + t) 0 = nI pr) (hwk : M (14 + t) 1 = nI wk) (hdl : M (14 + t) 2 = nI dl) (hof : M (14 + t) 3 = nI of) (hb : 1 ≤ wk ∧ wk ≤ dl ∧ dl ≤ pr ∧ pr ≤ 48 ∧ of ≤ 48) : xw_Mi l y_Tk_isServed (.code y_Tk_isServed b_Tk_isServed 6 (some .boolean) :: zG) { frames := 1, cells := 0, slots := 0, locals := 26 } D zCl (zT ca) [.ref (ad (14 + t)), .int (nI t), .ref (ad 13), .int (nI h)] (zW ca ad M) (fun _ => True) 0 0 (zW ca ad) (fun r M' => M' = M ∧ (sp_srv (M 13) t h pr wk dl of ∧ r = nI 1 ∨ ¬ sp_srv (M 13) t h pr wk dl of ∧ r = nI 0)) := by
  intro sz
  refine xw_met (cc := b_Tk_isServed) (maxL := 6) (ret := (some .boolean)) (by decide) rfl (Nat.le_of_ble_eq_true rfl) (fun p e s m args below meth c hr hlk hnm hsz hKs C => ?_)
  have hdp : h / pr ≤ h := Nat.div_le_self _ _
  have loop1 : ∀ (d : Nat) (i : Nat), h / pr - i = d → i ≤ h / pr → (∀ k, k < i → sp_cnt (M 13) t h (of + k * pr) dl = wk ∧ sp_cnt (M 13) t h (of + k * pr + dl) (pr - dl) = 0) → XW p l e { frames := 1, cells := 0, slots := 0, locals := 26 } s m args below meth c D zCl (va_A (zW ca ad M) sz) s.heap 6 (zW ca ad M) 0 0 (MQ below (va_Qi (fun r M' => M' = M ∧ (sp_srv (M 13) t h pr wk dl of ∧ r = nI 1 ∨ ¬ sp_srv (M 13) t h pr wk dl of ∧ r = nI 0)) (xw_B D zCl (zT ca) (va_A (zW ca ad M) sz) (zW ca ad)) (va_A (zW ca ad M) sz)) args s 0 0 (va_A (zW ca ad M) sz)) 3 [(0, .ref (ad (14 + t))), (1, .int (nI t)), (2, .ref (ad 13)), (3, .int (nI h)), (4, .int (nI i))] [] := by
    intro d
    induction d using Nat.strongRecOn with
    | _ d ih =>
      intro i hd hi hall
      refine xw_iload C 4 d_Tk_isServed_3 rfl (pc' := 5) rfl ?_
      refine xw_iload_n C 3 d_Tk_isServed_5 rfl rfl (pc' := 6) rfl ?_
      refine xw_aload_n C 0 d_Tk_isServed_6 rfl rfl (pc' := 7) rfl ?_
      refine xw_get C u_Tk (14 + t) (zr_Tk (t := t) (by omega)) rfl 0 (by decide) k_90 rfl rfl d_Tk_isServed_7 (pc' := 10) rfl ?_
      refine xw_topi (y := nI pr) hpr ?_
      refine xw_idiv C d_Tk_isServed_10 (nI_ne0 (by omega) (by omega)) (pc' := 11) rfl ?_
      refine xw_topi (y := nI (h / pr)) (pk_div (by omega) (by omega) (by omega)) ?_
      have hm10 : h / pr ≤ h := Nat.div_le_self _ _
      refine xw_icmp_ge C (tgt := 80) d_Tk_isServed_11 (by decide) (pc' := 14) rfl (fun h11 => ?_) (fun h11 => ?_)
      ·
        replace h11 : (h / pr) ≤ i := (nI_leI (by omega) (by omega)).mp h11
        refine xw_iconst C (v := nI 1) d_Tk_isServed_80 (by decide) (pc' := 81) rfl ?_
        refine xw_zret C hr hlk xp_n1 (F := zW ca ad) M rfl ?_ d_Tk_isServed_81
        exact ⟨rfl, Or.inl ⟨fun k hk => hall k (by omega), rfl⟩⟩
      ·
        replace h11 : ¬ ((h / pr) ≤ i) := fun h9 => h11 ((nI_leI (by omega) (by omega)).mpr h9)
        refine xw_aload_n C 0 d_Tk_isServed_14 rfl rfl (pc' := 15) rfl ?_
        refine xw_get C u_Tk (14 + t) (zr_Tk (t := t) (by omega)) rfl 3 (by decide) k_99 rfl rfl d_Tk_isServed_15 (pc' := 18) rfl ?_
        refine xw_topi (y := nI of) hof ?_
        refine xw_iload C 4 d_Tk_isServed_18 rfl (pc' := 20) rfl ?_
        refine xw_aload_n C 0 d_Tk_isServed_20 rfl rfl (pc' := 21) rfl ?_
        refine xw_get C u_Tk (14 + t) (zr_Tk (t := t) (by omega)) rfl 0 (by decide) k_90 rfl rfl d_Tk_isServed_21 (pc' := 24) rfl ?_
        refine xw_topi (y := nI pr) hpr ?_
        have hb1 : i * pr ≤ h := Nat.le_trans (Nat.mul_le_mul_right pr (by omega : i ≤ h / pr)) (Nat.div_mul_le_self h pr)
        refine xw_imul C d_Tk_isServed_24 (pc' := 25) rfl ?_
        refine xw_topi (y := nI (i * pr)) (pk_mul _ _) ?_
        refine xw_iadd C d_Tk_isServed_25 (pc' := 26) rfl ?_
        refine xw_topi (y := nI (of + (i * pr))) (nI_add _ _) ?_
        refine xw_istore C d_Tk_isServed_26 (by decide) rfl (pc' := 28) rfl ?_
        refine xw_iload_n C 2 d_Tk_isServed_28 rfl rfl (pc' := 29) rfl ?_
        refine xw_iload C 0 d_Tk_isServed_29 rfl (pc' := 31) rfl ?_
        refine xw_aload_n C 1 d_Tk_isServed_31 rfl rfl (pc' := 32) rfl ?_
        refine xw_get C u_Tk (14 + t) (zr_Tk (t := t) (by omega)) rfl 2 (by decide) k_98 rfl rfl d_Tk_isServed_32 (pc' := 35) rfl ?_
        refine xw_topi (y := nI dl) hdl ?_
        refine xw_aload_n C 3 d_Tk_isServed_35 rfl rfl (pc' := 36) rfl ?_
        refine xw_iload_n C 4 d_Tk_isServed_36 rfl rfl (pc' := 37) rfl ?_
        refine xw_callSi C (c_Tk_ticksOf l D ca ad M t h (of + (i * pr)) dl (by omega) (by omega) (by omega) (by omega)) ⟨zg_B C 5 k_478 k_26 k_480 q_Tk_ticksOf ⟨by decide, by decide⟩, C.2.2.2.2.1 _ k_479⟩ (fun _ _ _ _ h => h) (fun _ _ _ _ _ _ _ => trivial) rfl rfl (Nat.le_of_ble_eq_true rfl) d_Tk_isServed_37 ⟨by decide, by decide⟩ (pc' := 40) rfl (fun r51 M52 hp53 => ?_)
        obtain ⟨hme, hre⟩ := hp53
        rw [hme, hre]
        clear hme hre
        refine xw_aload_n C 1 d_Tk_isServed_40 rfl rfl (pc' := 41) rfl ?_
        refine xw_get C u_Tk (14 + t) (zr_Tk (t := t) (by omega)) rfl 1 (by decide) k_94 rfl rfl d_Tk_isServed_41 (pc' := 44) rfl ?_
        refine xw_topi (y := nI wk) hwk ?_
        have hc1 := sp_cnt_le (M 13) t h (of + i * pr) dl
        refine xw_icmp_ne C (tgt := 72) d_Tk_isServed_44 (by decide) (pc' := 47) rfl (fun h44 => ?_) (fun h44 => ?_)
        ·
          replace h44 : ¬ ((sp_cnt (M 13) t h (of + (i * pr)) dl) = wk) := fun h9 => h44 ((nI_eq (by omega) (by omega)).mpr h9)
          refine xw_iconst C (v := nI 0) d_Tk_isServed_72 (by decide) (pc' := 73) rfl ?_
          refine xw_zret C hr hlk xp_n0 (F := zW ca ad) M rfl ?_ d_Tk_isServed_73
          exact ⟨rfl, Or.inr ⟨fun h9 => absurd (h9 i (by omega)) (fun h9 => by first | exact h44 h9.1 | exact h69 h9.2), rfl⟩⟩
        ·
          replace h44 : (sp_cnt (M 13) t h (of + (i * pr)) dl) = wk := (nI_eq (by omega) (by omega)).mp h44
          refine xw_iload_n C 2 d_Tk_isServed_47 rfl rfl (pc' := 48) rfl ?_
          refine xw_iload C 0 d_Tk_isServed_48 rfl (pc' := 50) rfl ?_
          refine xw_aload_n C 1 d_Tk_isServed_50 rfl rfl (pc' := 51) rfl ?_
          refine xw_get C u_Tk (14 + t) (zr_Tk (t := t) (by omega)) rfl 2 (by decide) k_98 rfl rfl d_Tk_isServed_51 (pc' := 54) rfl ?_
          refine xw_topi (y := nI dl) hdl ?_
          refine xw_iadd C d_Tk_isServed_54 (pc' := 55) rfl ?_
          refine xw_topi (y := nI ((of + (i * pr)) + dl)) (nI_add _ _) ?_
          refine xw_aload_n C 1 d_Tk_isServed_55 rfl rfl (pc' := 56) rfl ?_
          refine xw_get C u_Tk (14 + t) (zr_Tk (t := t) (by omega)) rfl 0 (by decide) k_90 rfl rfl d_Tk_isServed_56 (pc' := 59) rfl ?_
          refine xw_topi (y := nI pr) hpr ?_
          refine xw_aload_n C 1 d_Tk_isServed_59 rfl rfl (pc' := 60) rfl ?_
          refine xw_get C u_Tk (14 + t) (zr_Tk (t := t) (by omega)) rfl 2 (by decide) k_98 rfl rfl d_Tk_isServed_60 (pc' := 63) rfl ?_
          refine xw_topi (y := nI dl) hdl ?_
          refine xw_isub C d_Tk_isServed_63 (pc' := 64) rfl ?_
          refine xw_topi (y := nI (pr - dl)) (pk_sub (by omega)) ?_
          refine xw_aload_n C 3 d_Tk_isServed_64 rfl rfl (pc' := 65) rfl ?_
          refine xw_iload_n C 4 d_Tk_isServed_65 rfl rfl (pc' := 66) rfl ?_
          refine xw_callSi C (c_Tk_ticksOf l D ca ad M t h ((of + (i * pr)) + dl) (pr - dl) (by omega) (by omega) (by omega) (by omega)) ⟨zg_B C 5 k_478 k_26 k_480 q_Tk_ticksOf ⟨by decide, by decide⟩, C.2.2.2.2.1 _ k_479⟩ (fun _ _ _ _ h => h) (fun _ _ _ _ _ _ _ => trivial) rfl rfl (Nat.le_of_ble_eq_true rfl) d_Tk_isServed_66 ⟨by decide, by decide⟩ (pc' := 69) rfl (fun r54 M55 hp56 => ?_)
          obtain ⟨hme, hre⟩ := hp56
          rw [hme, hre]
          clear hme hre
          have hc2 := sp_cnt_le (M 13) t h (of + i * pr + dl) (pr - dl)
          refine xw_if_eq C (tgt := 74) d_Tk_isServed_69 (by decide) (pc' := 72) rfl (fun h69 => ?_) (fun h69 => ?_)
          ·
            replace h69 : (sp_cnt (M 13) t h ((of + (i * pr)) + dl) (pr - dl)) = 0 := (xp_eq0 (by omega)).mp h69
            refine xw_iinc C 5 (v := nI (i + 1)) d_Tk_isServed_74 rfl (xp_inc1 _) (by decide) rfl (pc' := 77) rfl ?_
            refine xw_goto C (tgt := 3) d_Tk_isServed_77 (by decide) ?_
            refine xw_lv [2, 3, 4, 5, 0] rfl ?_
            exact ih (h / pr - (i + 1)) (by omega) (i + 1) rfl (by omega) (fun k hk => by
              rcases Nat.lt_or_ge k i with c9 | c9
              · exact hall k c9
              · rw [show k = i by omega]; exact ⟨h44, h69⟩)
          ·
            replace h69 : ¬ ((sp_cnt (M 13) t h ((of + (i * pr)) + dl) (pr - dl)) = 0) := fun h9 => h69 ((xp_eq0 (by omega)).mpr h9)
            refine xw_iconst C (v := nI 0) d_Tk_isServed_72 (by decide) (pc' := 73) rfl ?_
            refine xw_zret C hr hlk xp_n0 (F := zW ca ad) M rfl ?_ d_Tk_isServed_73
            exact ⟨rfl, Or.inr ⟨fun h9 => absurd (h9 i (by omega)) (fun h9 => by first | exact h44 h9.1 | exact h69 h9.2), rfl⟩⟩
  refine xw_lvE (lv' := [(0, .ref (ad (14 + t))), (1, .int (nI t)), (2, .ref (ad 13)), (3, .int (nI h))]) rfl ?_
  refine xw_iconst C (v := nI 0) d_Tk_isServed_0 (by decide) (pc' := 1) rfl ?_
  refine xw_istore C d_Tk_isServed_1 (by decide) rfl (pc' := 3) rfl ?_
  refine xw_lv [1, 2, 3, 4, 0] rfl ?_
  exact loop1 (h / pr) 0 rfl (Nat.zero_le _) (fun k hk => by omega)
