theorem fd_okF_inv {q : Nat} {own : String} {as : List Int} (h : fd_okF q own as = true) : fd_n as 0 < 11 ∧ fd_n as 1 < (fd_clD (fd_n as 0)).2.2 ∧ fd_kd (fd_ty (fd_n as 0) (fd_n as 1)) = fd_n as 2 ∧ fd_fl q own (fd_n as 3) (fd_a as 4) (fd_clD (fd_n as 0)).1 ((fd_clD (fd_n as 0)).2.1 (fd_n as 1)).2.1 ((fd_clD (fd_n as 0)).2.1 (fd_n as 1)).2.2.1 = true := by
  rw [fd_okF, Bool.and_eq_true, Bool.and_eq_true, Bool.and_eq_true] at h
  exact ⟨of_decide_eq_true h.1, of_decide_eq_true h.2.1, of_decide_eq_true h.2.2.1, h.2.2.2⟩
def fd_clOk2 (ci : Nat) : Bool := decide (∀ k, k < (fd_clD ci).2.2 → ((fd_clD ci).2.1 k).1 = (fd_clD ci).1 ∧ (fd_kd (fd_ty ci k) = 2 → isReferenceType (fd_ty ci k) = true))
theorem fd_cl2_all : (List.range 11).all fd_clOk2 = true := by decide +kernel
theorem fd_cl2_at {ci : Nat} (h : ci < 11) : ∀ k, k < (fd_clD ci).2.2 → ((fd_clD ci).2.1 k).1 = (fd_clD ci).1 ∧ (fd_kd (fd_ty ci k) = 2 → isReferenceType (fd_ty ci k) = true) := of_decide_eq_true (List.all_eq_true.mp fd_cl2_all ci (List.mem_range.mpr h))
theorem fd_fs_set {g : fd_G} {ph : Bool} {M : fd_M} {ci c k N : Nat} {x : Int} {v : Value} (hk : k < N) (hv : fd_fv g ph (fd_up M c k x) ci c k = v) : ((List.range N).map (fun j => fd_fv g ph M ci c j)).set k v = (List.range N).map (fun j => fd_fv g ph (fd_up M c k x) ci c j) := by
  apply List.ext_getElem?
  intro j
  by_cases hj : j < N
  · by_cases hjk : k = j
    · subst hjk
      rw [List.getElem?_set_self (by simpa using hj)]
      simp [hj, hv]
    · rw [List.getElem?_set_ne hjk]
      have e1 : fd_up M c k x c j = M c j := by rw [fd_up_at, if_neg (fun q => hjk q.symm)]
      simp [hj, fd_fv, fd_gf, fd_rf, e1]
  · rw [List.getElem?_eq_none (by simpa using hj), List.getElem?_eq_none (by simpa using hj)]
theorem fd_kd_int {t : FieldType} (h : fd_kd t = 0) : t = .int := by cases t <;> first | rfl | cases h
theorem fd_kd_long {t : FieldType} (h : fd_kd t = 1) : t = .long := by cases t <;> first | rfl | cases h
theorem fd_kd_bool {t : FieldType} (h : fd_kd t = 3) : t = .boolean := by cases t <;> first | rfl | cases h
theorem fd_bool {a : Int} (h : 0 ≤ a ∧ a < 2) : narrow .boolean (.int (Int32.ofInt a)) = .int (Int32.ofInt a) ∧ fits .boolean (.int (Int32.ofInt a)) = true := by
  have h1 : a = 0 ∨ a = 1 := by omega
  rcases h1 with rfl | rfl <;> exact ⟨rfl, rfl⟩
theorem fd_nbyte {a : Int} (h : 0 ≤ a + 128 ∧ a + 128 < 256) : narrow .byte (.int (Int32.ofInt a)) = .int (Int32.ofInt a) := by
  have key : ∀ n : Nat, n < 256 → narrow .byte (.int (Int32.ofInt ((n : Int) - 128))) = .int (Int32.ofInt ((n : Int) - 128)) := by decide +kernel
  have h1 := key (a + 128).toNat (by omega)
  rwa [show (((a + 128).toNat : Int) - 128) = a by omega] at h1
section fdK2
variable {g : fd_G} {ph : Bool} {p : Program} {l : Launch} {e : Env} {R : Room} {s : State} {m : MethodId} {args : Array Value} {below : List Frame} {meth : Method} {c : Code} {mm a0 i pc : Nat} {Q : State → Prop} {as : List Int} {L L' st st' : List fd_V} {M M' : fd_M} {H : Heap} {locs : List Loc} {la : Array Slot}
theorem fd_k27 (cx : fd_cx g p R s m args meth c mm) (hok : fd_okI (fd_y mm).cls (fd_b mm) (fd_ini mm) (fd_pcs mm) pc ((fd_pcs mm).getD (i + 1) 0) 27 as = true) (hn : fd_nx ph 27 as L st M = some (true, L', st', M')) (kk : fd_Go g ph p l e R s m args below meth c mm a0 Q (i + 1) L' st' M') (hH : fd_hp g ph M H) (hS : va_S (fd_A g) s.heap H locs) (hl : fd_lr g la (fd_mL mm) L) : W p l e R s m args below meth c H locs (fd_ap M - a0) (fd_sl (fd_ap M) - fd_sl a0) Q (F0 m pc la (st.map (fd_cv g))) := by
  obtain ⟨hx, hb, hml, hr, hown, hts, hlk, hini, ⟨hK, hNw, hSt⟩, hbs, h177, hfr, hlo⟩ := cx
  rw [fd_okI, Bool.and_eq_true] at hok
  obtain ⟨hd, hnx⟩ := fd_dc_inv hok.1
  obtain ⟨hci, hkN, hkd, hfl⟩ := fd_okF_inv hok.2
  obtain ⟨a, r, rfl, hn1⟩ := fd_pR_inv hn
  obtain ⟨hg, rfl, rfl, rfl⟩ := fd_some4 hn1
  obtain ⟨hsh, hal⟩ := fd_isO_inv hg
  obtain ⟨hlt, h213⟩ := fd_lt_ap hH hal (by omega)
  have hsz := ((fd_sh_at (c := a) (by omega)).2.1 (by omega)).2
  rw [hsh] at hsz
  have hce := fd_ws_get (g := g) (ph := ph) (M := M) hlt
  rw [fd_ce_obj hsh (by omega)] at hce
  have hin := (fd_cl_at hci).1
  have k1 := kk (pc + 3) H locs la (fd_nxt hnx (by decide)) hH hS hl
  have hv : ((List.range (fd_SH a).2).map (fun k => fd_fv g ph M (fd_n as 0) a k))[fd_n as 1]? = some (fd_cv g (fd_gf ph M (fd_n as 2) a (fd_n as 1))) := by
    simp [show fd_n as 1 < (fd_SH a).2 by omega, fd_fv, hkd]
  rw [List.map_cons, show fd_cv g (fd_R a) = .ref (g.1 + a) from fd_rv_lt (by omega)]
  have hsame : ∀ x, s.fieldFound? ((fd_clD (fd_n as 0)).2.1 (fd_n as 1)).1 ((fd_clD (fd_n as 0)).2.1 (fd_n as 1)).2.1 ((fd_clD (fd_n as 0)).2.1 (fd_n as 1)).2.2.1 = some x → s.fieldFound? (fd_clD (fd_n as 0)).1 ((fd_clD (fd_n as 0)).2.1 (fd_n as 1)).2.1 ((fd_clD (fd_n as 0)).2.1 (fd_n as 1)).2.2.1 = some x := fun x h => by rw [← (fd_cl2_at hci _ hkN).1]; exact h
  rw [fd_fl] at hfl
  split at hfl
  · exact va_get hx hb hts hin hown hK hH.2.2.2.2 a hce (fd_clD_get hci) (fd_n as 1) hkN (hts _ (fd_wd_mem hfl)) hsame hv hd k1
  · exact va_getN hx hb hts hin hown hK hH.2.2.2.2 a hce (fd_clD_get hci) (fd_n as 1) hkN (hts _ (fd_wd_mem hfl)) hsame hv hd k1
/-- a write into a field, whatever its kind -/
theorem fd_kput (cx : fd_cx g p R s m args meth c mm) (hok : fd_okI (fd_y mm).cls (fd_b mm) (fd_ini mm) (fd_pcs mm) pc ((fd_pcs mm).getD (i + 1) 0) 28 as = true) {x : Int} {v : Value} {a : Nat} {r : List Value}
    (hal : fd_isO ph M a (fd_n as 0) = true) (hnar : narrow (fd_ty (fd_n as 0) (fd_n as 1)) v = v) (hfit : fits (fd_ty (fd_n as 0) (fd_n as 1)) v = true) (hv : fd_fv g ph (fd_up M a (fd_n as 1) x) (fd_n as 0) a (fd_n as 1) = v)
    (hH : fd_hp g ph M H) (hS : va_S (fd_A g) s.heap H locs) (kk : ∀ (H1 : Heap) (locs1 : List Loc), (fd_pcs mm)[i + 1]? = some (pc + 3) → fd_hp g ph (fd_up M a (fd_n as 1) x) H1 → va_S (fd_A g) s.heap H1 locs1 → W p l e R s m args below meth c H1 locs1 (fd_ap M - a0) (fd_sl (fd_ap M) - fd_sl a0) Q (F0 m (pc + 3) la r)) :
    W p l e R s m args below meth c H locs (fd_ap M - a0) (fd_sl (fd_ap M) - fd_sl a0) Q (F0 m pc la (v :: fd_cv g (fd_R a) :: r)) := by
  obtain ⟨hx, hb, hml, hr, hown, hts, hlk, hini, ⟨hK, hNw, hSt⟩, hbs, h177, hfr, hlo⟩ := cx
  rw [fd_okI, Bool.and_eq_true, Bool.and_eq_true] at hok
  obtain ⟨hd, hnx⟩ := fd_dc_inv hok.1
  obtain ⟨hci, hkN, hkd, hfl⟩ := fd_okF_inv hok.2.1
  obtain ⟨hsh, hal⟩ := fd_isO_inv hal
  obtain ⟨hlt, h213⟩ := fd_lt_ap hH hal (by omega)
  have hsz := ((fd_sh_at (c := a) (by omega)).2.1 (by omega)).2
  rw [hsh] at hsz
  have hce := fd_ws_get (g := g) (ph := ph) (M := M) hlt
  rw [fd_ce_obj hsh (by omega)] at hce
  obtain ⟨hin, -, -, hnm, hty⟩ := fd_cl_at hci
  rw [show fd_cv g (fd_R a) = .ref (g.1 + a) from fd_rv_lt (by omega)]
  have fin : ∀ (H1 : Heap) (locs1 : List Loc), H1.size = H.size → va_P g.2.2.2.1 fd_cl ((fd_ws g ph M (fd_ap M)).set a (g.1 + a, .inr (fd_n as 0, ((List.range (fd_SH a).2).map (fun k => fd_fv g ph M (fd_n as 0) a k)).set (fd_n as 1) v))) H1 → va_S (fd_A g) s.heap H1 locs1 → W p l e R s m args below meth c H1 locs1 (fd_ap M - a0) (fd_sl (fd_ap M) - fd_sl a0) Q (F0 m (pc + 3) la r) := fun H1 locs1 z hP1 hS1 => by
    refine kk H1 locs1 (fd_nxt hnx (by decide)) (fd_hp_up hH hlt (fun _ => z) _ ?_ hP1) hS1
    rw [fd_ce_obj hsh (by omega), fd_fs_set (by omega) hv]
  have hlen : fd_n as 1 < ((List.range (fd_SH a).2).map (fun k => fd_fv g ph M (fd_n as 0) a k)).length := by
    rw [List.length_map, List.length_range]; omega
  have hC := (fd_cl2_at hci _ hkN).1
  rw [fd_fl] at hfl
  have hok2 := hok.2.2
  split at hfl
  · refine fd_rput hx hb hts hin (fd_ty (fd_n as 0)) hty hnm hown hK hH.2.2.2.2 fd_ws_D hS a hce (fd_clD_get hci) (fd_n as 1) hkN (by rw [hC]; exact hts _ (fd_wd_mem hfl)) (fun hf => ?_) hnar hfit hlen hd fin
    rw [if_pos hf, Bool.and_eq_true, Bool.and_eq_true] at hok2
    exact ⟨hini hok2.1, of_decide_eq_true hok2.2.1⟩
  · rename_i hne
    refine fd_rputN hx hb hts hin (fd_ty (fd_n as 0)) hty hnm hown hK hH.2.2.2.2 fd_ws_D hS a hce (fd_clD_get hci) (fd_n as 1) hkN (by rw [hC]; exact hts _ (fd_wd_mem hfl)) ?_ hnar hfit hlen hd fin
    cases hf : ((fd_clD (fd_n as 0)).2.1 (fd_n as 1)).2.2.2 with
    | false => rfl
    | true =>
      rw [if_pos hf, Bool.and_eq_true, Bool.and_eq_true] at hok2
      exact absurd (of_decide_eq_true hok2.2.2) hne
theorem fd_k28 (cx : fd_cx g p R s m args meth c mm) (hok : fd_okI (fd_y mm).cls (fd_b mm) (fd_ini mm) (fd_pcs mm) pc ((fd_pcs mm).getD (i + 1) 0) 28 as = true) (hn : fd_nx ph 28 as L st M = some (true, L', st', M')) (kk : fd_Go g ph p l e R s m args below meth c mm a0 Q (i + 1) L' st' M') (hH : fd_hp g ph M H) (hS : va_S (fd_A g) s.heap H locs) (hl : fd_lr g la (fd_mL mm) L) : W p l e R s m args below meth c H locs (fd_ap M - a0) (fd_sl (fd_ap M) - fd_sl a0) Q (F0 m pc la (st.map (fd_cv g))) := by
  have hok0 := hok
  rw [fd_okI, Bool.and_eq_true, Bool.and_eq_true] at hok0
  obtain ⟨hci, hkN, hkd, -⟩ := fd_okF_inv hok0.2.1
  have hR := (fd_cl2_at hci _ hkN).2
  have hap : ∀ {a : Nat} {x : Int}, fd_isO ph M a (fd_n as 0) = true → fd_ap (fd_up M a (fd_n as 1) x) = fd_ap M := fun {a x} hal => by
    obtain ⟨hsh, hal⟩ := fd_isO_inv hal
    show Int.toNat _ = _
    rw [fd_up_ap (fd_lt_ap hH hal (by omega)).2]
  have hn : fd_put ph (fd_n as 0) (fd_n as 1) (fd_n as 2) L st M = some (true, L', st', M') := hn
  unfold fd_put at hn
  split at hn
  · rename_i h2
    rw [h2] at hkd
    obtain ⟨x, r, rfl, hn1⟩ := fd_pI_inv hn
    obtain ⟨a, r, rfl, hn2⟩ := fd_pR_inv hn1
    obtain ⟨hg, rfl, rfl, rfl⟩ := fd_some4 hn2
    refine fd_kput (x := x) (v := .int (Int32.ofInt x)) cx hok hg (by rw [fd_kd_int hkd]; rfl) (by rw [fd_kd_int hkd]; rfl) (by simp [fd_fv, hkd, fd_gf, fd_cv, fd_up_at]) hH hS (fun H1 l1 hp h1 h2 => ?_)
    have k1 := kk (pc + 3) H1 l1 la hp h1 h2 hl
    rw [hap hg] at k1
    exact k1
  · rename_i h2
    rw [h2] at hkd
    obtain ⟨x, r, rfl, hn1⟩ := fd_pJ_inv hn
    obtain ⟨a, r, rfl, hn2⟩ := fd_pR_inv hn1
    obtain ⟨hg, rfl, rfl, rfl⟩ := fd_some4 hn2
    refine fd_kput (x := x) (v := .long (Int64.ofInt x)) cx hok hg (by rw [fd_kd_long hkd]; rfl) (by rw [fd_kd_long hkd]; rfl) (by simp [fd_fv, hkd, fd_gf, fd_cv, fd_up_at]) hH hS (fun H1 l1 hp h1 h2 => ?_)
    have k1 := kk (pc + 3) H1 l1 la hp h1 h2 hl
    rw [hap hg] at k1
    exact k1
  · rename_i h2
    rw [h2] at hkd
    obtain ⟨x, r, rfl, hn1⟩ := fd_pR_inv hn
    obtain ⟨a, r, rfl, hn2⟩ := fd_pR_inv hn1
    obtain ⟨hg, rfl, rfl, rfl⟩ := fd_some4 hn2
    rw [Bool.and_eq_true, Bool.and_eq_true] at hg
    obtain ⟨hph, hg, hx3⟩ := hg
    have hph : ph = false := by simpa using hph
    subst hph
    have hx3 : x < 1000 := by simpa using hx3
    have hR := hR hkd
    refine fd_kput (x := x) (v := fd_cv g (fd_R x)) cx hok hg ?_ ?_ (by simp [fd_fv, hkd, fd_gf, fd_rf, fd_cv, fd_up_at]) hH hS (fun H1 l1 hp h1 h2 => ?_)
    · rw [show fd_cv g (fd_R x) = .ref (g.1 + x) from fd_rv_lt hx3]
      cases ht : fd_ty (fd_n as 0) (fd_n as 1) <;> rw [ht] at hR <;> first | rfl | cases hR
    · rw [show fd_cv g (fd_R x) = .ref (g.1 + x) from fd_rv_lt hx3]
      cases ht : fd_ty (fd_n as 0) (fd_n as 1) <;> rw [ht] at hR <;> first | rfl | cases hR
    · have k1 := kk (pc + 3) H1 l1 la hp h1 h2 hl
      rw [hap hg] at k1
      exact k1
  · rename_i h2
    rw [h2] at hkd
    obtain ⟨x, r, rfl, hn1⟩ := fd_pI_inv hn
    obtain ⟨a, r, rfl, hn2⟩ := fd_pR_inv hn1
    obtain ⟨hg, rfl, rfl, rfl⟩ := fd_some4 hn2
    rw [Bool.and_eq_true, fd_inb_iff] at hg
    obtain ⟨n1, n2⟩ := fd_bool hg.2
    refine fd_kput (x := x) (v := .int (Int32.ofInt x)) cx hok hg.1 (by rw [fd_kd_bool hkd]; exact n1) (by rw [fd_kd_bool hkd]; exact n2) (by simp [fd_fv, hkd, fd_gf, fd_cv, fd_up_at]) hH hS (fun H1 l1 hp h1 h2 => ?_)
    have k1 := kk (pc + 3) H1 l1 la hp h1 h2 hl
    rw [hap hg.1] at k1
    exact k1
  · cases hn
theorem fd_k29 (cx : fd_cx g p R s m args meth c mm) (hok : fd_okI (fd_y mm).cls (fd_b mm) (fd_ini mm) (fd_pcs mm) pc ((fd_pcs mm).getD (i + 1) 0) 29 as = true) (hn : fd_nx ph 29 as L st M = some (true, L', st', M')) (kk : fd_Go g ph p l e R s m args below meth c mm a0 Q (i + 1) L' st' M') (hH : fd_hp g ph M H) (hS : va_S (fd_A g) s.heap H locs) (hl : fd_lr g la (fd_mL mm) L) : W p l e R s m args below meth c H locs (fd_ap M - a0) (fd_sl (fd_ap M) - fd_sl a0) Q (F0 m pc la (st.map (fd_cv g))) := by
  obtain ⟨hx, hb, hml, hr, hown, hts, hlk, hini, ⟨hK, hNw, hSt⟩, hbs, h177, hfr, hlo⟩ := cx
  rw [fd_okI, Bool.and_eq_true, Bool.or_eq_true, Bool.and_eq_true, Bool.and_eq_true] at hok
  obtain ⟨hd, hnx⟩ := fd_dc_inv hok.1
  obtain ⟨hg, rfl, rfl, rfl⟩ := fd_some4 hn
  have k1 := kk (pc + 3) H locs la (fd_nxt hnx (by decide)) hH hS hl
  rcases hok.2 with ⟨h1, hfl⟩ | ⟨h1, hfl⟩
  · rw [of_decide_eq_true h1] at k1
    rw [fd_fl] at hfl
    split at hfl
    · exact va_gets hx hb hSt.1 hS hown (hts _ (fd_wd_mem hfl)) (fun _ h => h) hd k1
    · exact va_getsN hx hb hSt.1 hS hown (hts _ (fd_wd_mem hfl)) (fun _ h => h) hd k1
  · rw [of_decide_eq_true h1] at k1
    rw [fd_fl] at hfl
    split at hfl
    · exact va_gets hx hb hSt.2.2.1 hS hown (hts _ (fd_wd_mem hfl)) (fun _ h => h) hd k1
    · exact va_getsN hx hb hSt.2.2.1 hS hown (hts _ (fd_wd_mem hfl)) (fun _ h => h) hd k1
theorem fd_k30 (cx : fd_cx g p R s m args meth c mm) (hok : fd_okI (fd_y mm).cls (fd_b mm) (fd_ini mm) (fd_pcs mm) pc ((fd_pcs mm).getD (i + 1) 0) 30 as = true) (hn : fd_nx ph 30 as L st M = some (true, L', st', M')) (kk : fd_Go g ph p l e R s m args below meth c mm a0 Q (i + 1) L' st' M') (hH : fd_hp g ph M H) (hS : va_S (fd_A g) s.heap H locs) (hl : fd_lr g la (fd_mL mm) L) : W p l e R s m args below meth c H locs (fd_ap M - a0) (fd_sl (fd_ap M) - fd_sl a0) Q (F0 m pc la (st.map (fd_cv g))) := by
  obtain ⟨hx, hb, hml, hr, hown, hts, hlk, hini, ⟨hK, hNw, hSt⟩, hbs, h177, hfr, hlo⟩ := cx
  obtain ⟨hd, hnx⟩ := fd_dc_inv (show fd_dc (fd_b mm) pc _ .iaload 1 = true from hok)
  obtain ⟨j, r, rfl, hn1⟩ := fd_pI_inv hn
  obtain ⟨a, r, rfl, hn2⟩ := fd_pR_inv hn1
  obtain ⟨hg, rfl, rfl, rfl⟩ := fd_some4 hn2
  obtain ⟨hsh, hal, hi0, hi1⟩ := fd_isA_inv hg
  obtain ⟨hlt, h213⟩ := fd_lt_ap hH hal (by omega)
  have hn3 := (fd_sh_at (c := a) (by omega)).2.2
  obtain ⟨hin, hcl⟩ := fd_vin ⟨hi0, hi1⟩ (by omega)
  have hce := fd_ws_get (g := g) (ph := ph) (M := M) hlt
  rw [fd_ce_int hsh (by decide) (by decide)] at hce
  have k1 := kk (pc + 1) H locs la (fd_nxt hnx (by decide)) hH hS hl
  rw [List.map_cons, List.map_cons, show fd_cv g (fd_R a) = .ref (g.1 + a) from fd_rv_lt (by omega)]
  refine va_iald hx hb hK hH.2.2.2.2 a 0 hce rfl hin hd ?_
  rw [hcl]
  exact k1
theorem fd_k32 (cx : fd_cx g p R s m args meth c mm) (hok : fd_okI (fd_y mm).cls (fd_b mm) (fd_ini mm) (fd_pcs mm) pc ((fd_pcs mm).getD (i + 1) 0) 32 as = true) (hn : fd_nx ph 32 as L st M = some (true, L', st', M')) (kk : fd_Go g ph p l e R s m args below meth c mm a0 Q (i + 1) L' st' M') (hH : fd_hp g ph M H) (hS : va_S (fd_A g) s.heap H locs) (hl : fd_lr g la (fd_mL mm) L) : W p l e R s m args below meth c H locs (fd_ap M - a0) (fd_sl (fd_ap M) - fd_sl a0) Q (F0 m pc la (st.map (fd_cv g))) := by
  obtain ⟨hx, hb, hml, hr, hown, hts, hlk, hini, ⟨hK, hNw, hSt⟩, hbs, h177, hfr, hlo⟩ := cx
  obtain ⟨hd, hnx⟩ := fd_dc_inv (show fd_dc (fd_b mm) pc _ .baload 1 = true from hok)
  obtain ⟨j, r, rfl, hn1⟩ := fd_pI_inv hn
  obtain ⟨a, r, rfl, hn2⟩ := fd_pR_inv hn1
  obtain ⟨hg, rfl, rfl, rfl⟩ := fd_some4 hn2
  rw [Bool.or_eq_true] at hg
  have k1 := kk (pc + 1) H locs la (fd_nxt hnx (by decide)) hH hS hl
  rcases hg with hg | hg
  · obtain ⟨hsh, hal, hi0, hi1⟩ := fd_isA_inv hg
    obtain ⟨hlt, h213⟩ := fd_lt_ap hH hal (by omega)
    have hn3 := (fd_sh_at (c := a) (by omega)).2.2
    obtain ⟨hin, hcl⟩ := fd_vin ⟨hi0, hi1⟩ (by omega)
    have hce := fd_ws_get (g := g) (ph := ph) (M := M) hlt
    rw [fd_ce_int hsh (by decide) (by decide)] at hce
    rw [List.map_cons, List.map_cons, show fd_cv g (fd_R a) = .ref (g.1 + a) from fd_rv_lt (by omega)]
    refine va_bald hx hb hK hH.2.2.2.2 a 1 hce rfl hin hd ?_
    rw [hcl]
    exact k1
  · obtain ⟨hsh, hal, hi0, hi1⟩ := fd_isA_inv hg
    obtain ⟨hlt, h213⟩ := fd_lt_ap hH hal (by omega)
    have hn3 := (fd_sh_at (c := a) (by omega)).2.2
    obtain ⟨hin, hcl⟩ := fd_vin ⟨hi0, hi1⟩ (by omega)
    have hce := fd_ws_get (g := g) (ph := ph) (M := M) hlt
    rw [fd_ce_int hsh (by decide) (by decide)] at hce
    rw [List.map_cons, List.map_cons, show fd_cv g (fd_R a) = .ref (g.1 + a) from fd_rv_lt (by omega)]
    refine va_zald hx hb hK hH.2.2.2.2 a 2 hce rfl hin hd ?_
    rw [hcl]
    exact k1
theorem fd_k31 (cx : fd_cx g p R s m args meth c mm) (hok : fd_okI (fd_y mm).cls (fd_b mm) (fd_ini mm) (fd_pcs mm) pc ((fd_pcs mm).getD (i + 1) 0) 31 as = true) (hn : fd_nx ph 31 as L st M = some (true, L', st', M')) (kk : fd_Go g ph p l e R s m args below meth c mm a0 Q (i + 1) L' st' M') (hH : fd_hp g ph M H) (hS : va_S (fd_A g) s.heap H locs) (hl : fd_lr g la (fd_mL mm) L) : W p l e R s m args below meth c H locs (fd_ap M - a0) (fd_sl (fd_ap M) - fd_sl a0) Q (F0 m pc la (st.map (fd_cv g))) := by
  obtain ⟨hx, hb, hml, hr, hown, hts, hlk, hini, ⟨hK, hNw, hSt⟩, hbs, h177, hfr, hlo⟩ := cx
  obtain ⟨hd, hnx⟩ := fd_dc_inv (show fd_dc (fd_b mm) pc _ .iastore 1 = true from hok)
  obtain ⟨x, r, rfl, hn1⟩ := fd_pI_inv hn
  obtain ⟨j, r, rfl, hn2⟩ := fd_pI_inv hn1
  obtain ⟨a, r, rfl, hn3⟩ := fd_pR_inv hn2
  obtain ⟨hg, rfl, rfl, rfl⟩ := fd_some4 hn3
  obtain ⟨hsh, hal, hi0, hi1⟩ := fd_isA_inv hg
  obtain ⟨hlt, h213⟩ := fd_lt_ap hH hal (by omega)
  have hn3 := (fd_sh_at (c := a) (by omega)).2.2
  obtain ⟨hin, hcl⟩ := fd_vin ⟨hi0, hi1⟩ (by omega)
  have hce := fd_ws_get (g := g) (ph := ph) (M := M) hlt
  have e1 : ∀ (x : Int), upd (fun j => Int32.ofInt (M a j)) j.toNat (Int32.ofInt x) = fun k => Int32.ofInt (fd_up M a j.toNat x a k) := fun x => by
    funext k
    rw [fd_up_at]
    by_cases h : k = j.toNat
    · simp [upd, h]
    · simp [upd, h]
  rw [fd_ce_int hsh (by decide) (by decide)] at hce
  rw [List.map_cons, List.map_cons, List.map_cons, show fd_cv g (fd_R a) = .ref (g.1 + a) from fd_rv_lt (by omega)]
  refine fd_riast hx hb hK hH.2.2.2.2 fd_ws_D hS a 0 hce rfl hin hd (fun H1 l1 z hP1 hS1 => ?_)
  have k1 := kk (pc + 1) H1 l1 la (fd_nxt hnx (by decide)) (fd_hp_up hH hlt (fun _ => z) _ (by rw [fd_ce_int hsh (by decide) (by decide), hcl, e1]) hP1) hS1 hl
  rw [show fd_ap (fd_up M a j.toNat x) = fd_ap M from by show Int.toNat _ = _; rw [fd_up_ap h213]] at k1
  exact k1
theorem fd_k33 (cx : fd_cx g p R s m args meth c mm) (hok : fd_okI (fd_y mm).cls (fd_b mm) (fd_ini mm) (fd_pcs mm) pc ((fd_pcs mm).getD (i + 1) 0) 33 as = true) (hn : fd_nx ph 33 as L st M = some (true, L', st', M')) (kk : fd_Go g ph p l e R s m args below meth c mm a0 Q (i + 1) L' st' M') (hH : fd_hp g ph M H) (hS : va_S (fd_A g) s.heap H locs) (hl : fd_lr g la (fd_mL mm) L) : W p l e R s m args below meth c H locs (fd_ap M - a0) (fd_sl (fd_ap M) - fd_sl a0) Q (F0 m pc la (st.map (fd_cv g))) := by
  obtain ⟨hx, hb, hml, hr, hown, hts, hlk, hini, ⟨hK, hNw, hSt⟩, hbs, h177, hfr, hlo⟩ := cx
  obtain ⟨hd, hnx⟩ := fd_dc_inv (show fd_dc (fd_b mm) pc _ .bastore 1 = true from hok)
  obtain ⟨x, r, rfl, hn1⟩ := fd_pI_inv hn
  obtain ⟨j, r, rfl, hn2⟩ := fd_pI_inv hn1
  obtain ⟨a, r, rfl, hn3⟩ := fd_pR_inv hn2
  obtain ⟨hg, rfl, rfl, rfl⟩ := fd_some4 hn3
  rw [Bool.or_eq_true, Bool.and_eq_true, Bool.and_eq_true, fd_inb_iff, fd_inb_iff] at hg
  have e1 : ∀ (x : Int), upd (fun j => Int32.ofInt (M a j)) j.toNat (Int32.ofInt x) = fun k => Int32.ofInt (fd_up M a j.toNat x a k) := fun x => by
    funext k
    rw [fd_up_at]
    by_cases h : k = j.toNat
    · simp [upd, h]
    · simp [upd, h]
  rcases hg with ⟨hg, hv⟩ | ⟨hg, hv⟩
  · obtain ⟨hsh, hal, hi0, hi1⟩ := fd_isA_inv hg
    obtain ⟨hlt, h213⟩ := fd_lt_ap hH hal (by omega)
    have hn3 := (fd_sh_at (c := a) (by omega)).2.2
    obtain ⟨hin, hcl⟩ := fd_vin ⟨hi0, hi1⟩ (by omega)
    have hce := fd_ws_get (g := g) (ph := ph) (M := M) hlt
    rw [fd_ce_int hsh (by decide) (by decide)] at hce
    rw [List.map_cons, List.map_cons, List.map_cons, show fd_cv g (fd_R a) = .ref (g.1 + a) from fd_rv_lt (by omega)]
    refine fd_rbast (ty := .byte) hx hb hK hH.2.2.2.2 fd_ws_D hS a 1 hce rfl (Or.inl rfl) (fd_nbyte hv) hin hd (fun H1 l1 z hP1 hS1 => ?_)
    have k1 := kk (pc + 1) H1 l1 la (fd_nxt hnx (by decide)) (fd_hp_up hH hlt (fun _ => z) _ (by rw [fd_ce_int hsh (by decide) (by decide), hcl, e1]) hP1) hS1 hl
    rw [show fd_ap (fd_up M a j.toNat x) = fd_ap M from by show Int.toNat _ = _; rw [fd_up_ap h213]] at k1
    exact k1
  · obtain ⟨hsh, hal, hi0, hi1⟩ := fd_isA_inv hg
    obtain ⟨hlt, h213⟩ := fd_lt_ap hH hal (by omega)
    have hn3 := (fd_sh_at (c := a) (by omega)).2.2
    obtain ⟨hin, hcl⟩ := fd_vin ⟨hi0, hi1⟩ (by omega)
    have hce := fd_ws_get (g := g) (ph := ph) (M := M) hlt
    rw [fd_ce_int hsh (by decide) (by decide)] at hce
    rw [List.map_cons, List.map_cons, List.map_cons, show fd_cv g (fd_R a) = .ref (g.1 + a) from fd_rv_lt (by omega)]
    refine fd_rbast (ty := .boolean) hx hb hK hH.2.2.2.2 fd_ws_D hS a 2 hce rfl (Or.inr rfl) ((fd_bool hv).1) hin hd (fun H1 l1 z hP1 hS1 => ?_)
    have k1 := kk (pc + 1) H1 l1 la (fd_nxt hnx (by decide)) (fd_hp_up hH hlt (fun _ => z) _ (by rw [fd_ce_int hsh (by decide) (by decide), hcl, e1]) hP1) hS1 hl
    rw [show fd_ap (fd_up M a j.toNat x) = fd_ap M from by show Int.toNat _ = _; rw [fd_up_ap h213]] at k1
    exact k1
theorem fd_k34 (cx : fd_cx g p R s m args meth c mm) (hok : fd_okI (fd_y mm).cls (fd_b mm) (fd_ini mm) (fd_pcs mm) pc ((fd_pcs mm).getD (i + 1) 0) 34 as = true) (hn : fd_nx ph 34 as L st M = some (true, L', st', M')) (kk : fd_Go g ph p l e R s m args below meth c mm a0 Q (i + 1) L' st' M') (hH : fd_hp g ph M H) (hS : va_S (fd_A g) s.heap H locs) (hl : fd_lr g la (fd_mL mm) L) : W p l e R s m args below meth c H locs (fd_ap M - a0) (fd_sl (fd_ap M) - fd_sl a0) Q (F0 m pc la (st.map (fd_cv g))) := by
  obtain ⟨hx, hb, hml, hr, hown, hts, hlk, hini, ⟨hK, hNw, hSt⟩, hbs, h177, hfr, hlo⟩ := cx
  obtain ⟨hd, hnx⟩ := fd_dc_inv (show fd_dc (fd_b mm) pc _ .aaload 1 = true from hok)
  obtain ⟨j, r, rfl, hn1⟩ := fd_pI_inv hn
  obtain ⟨a, r, rfl, hn2⟩ := fd_pR_inv hn1
  obtain ⟨hg, rfl, rfl, rfl⟩ := fd_some4 hn2
  rw [Bool.and_eq_true, Bool.or_eq_true] at hg
  have hm3 : (M a j.toNat).toNat < 1000 := by simpa using hg.2
  have k1 := kk (pc + 1) H locs la (fd_nxt hnx (by decide)) hH hS hl
  rw [List.map_cons, show fd_cv g (fd_R (M a j.toNat).toNat) = .ref (g.1 + (M a j.toNat).toNat) from fd_rv_lt hm3] at k1
  rcases hg.1 with hg | hg
  · obtain ⟨hsh, hal, hi0, hi1⟩ := fd_isA_inv hg
    obtain ⟨hlt, h213⟩ := fd_lt_ap hH hal (by omega)
    have hn3 := (fd_sh_at (c := a) (by omega)).2.2
    obtain ⟨hin, hcl⟩ := fd_vin ⟨hi0, hi1⟩ (by omega)
    have hce := fd_ws_get (g := g) (ph := ph) (M := M) hlt
    rw [fd_ce_ref hsh (by decide)] at hce
    rw [List.map_cons, List.map_cons, show fd_cv g (fd_R a) = .ref (g.1 + a) from fd_rv_lt (by omega)]
    refine va_aldq hx hb hK hH.2.2.2.2 a 3 hce rfl hin hd ?_
    rw [hcl, fd_ro, if_pos hm3]
    exact k1
  · obtain ⟨hsh, hal, hi0, hi1⟩ := fd_isA_inv hg
    obtain ⟨hlt, h213⟩ := fd_lt_ap hH hal (by omega)
    have hn3 := (fd_sh_at (c := a) (by omega)).2.2
    obtain ⟨hin, hcl⟩ := fd_vin ⟨hi0, hi1⟩ (by omega)
    have hce := fd_ws_get (g := g) (ph := ph) (M := M) hlt
    rw [fd_ce_ref hsh (by decide)] at hce
    rw [List.map_cons, List.map_cons, show fd_cv g (fd_R a) = .ref (g.1 + a) from fd_rv_lt (by omega)]
    refine va_aldq hx hb hK hH.2.2.2.2 a 4 hce rfl hin hd ?_
    rw [hcl, fd_ro, if_pos hm3]
    exact k1
theorem fd_k35 (cx : fd_cx g p R s m args meth c mm) (hok : fd_okI (fd_y mm).cls (fd_b mm) (fd_ini mm) (fd_pcs mm) pc ((fd_pcs mm).getD (i + 1) 0) 35 as = true) (hn : fd_nx ph 35 as L st M = some (true, L', st', M')) (kk : fd_Go g ph p l e R s m args below meth c mm a0 Q (i + 1) L' st' M') (hH : fd_hp g ph M H) (hS : va_S (fd_A g) s.heap H locs) (hl : fd_lr g la (fd_mL mm) L) : W p l e R s m args below meth c H locs (fd_ap M - a0) (fd_sl (fd_ap M) - fd_sl a0) Q (F0 m pc la (st.map (fd_cv g))) := by
  obtain ⟨hx, hb, hml, hr, hown, hts, hlk, hini, ⟨hK, hNw, hSt⟩, hbs, h177, hfr, hlo⟩ := cx
  obtain ⟨hd, hnx⟩ := fd_dc_inv (show fd_dc (fd_b mm) pc _ .aastore 1 = true from hok)
  obtain ⟨x, r, rfl, hn1⟩ := fd_pR_inv hn
  obtain ⟨j, r, rfl, hn2⟩ := fd_pI_inv hn1
  obtain ⟨a, r, rfl, hn3⟩ := fd_pR_inv hn2
  obtain ⟨hg, rfl, rfl, rfl⟩ := fd_some4 hn3
  rw [Bool.or_eq_true, Bool.and_eq_true, Bool.and_eq_true] at hg
  rcases hg with ⟨hg, hv⟩ | ⟨hg, hv⟩
  · obtain ⟨hsh, hal, hi0, hi1⟩ := fd_isA_inv hg
    obtain ⟨hsx, halx⟩ := fd_isO_inv hv
    obtain ⟨hlt, h213⟩ := fd_lt_ap hH hal (by omega)
    obtain ⟨hltx, hx213⟩ := fd_lt_ap hH halx (by omega)
    have hn3 := (fd_sh_at (c := a) (by omega)).2.2
    obtain ⟨hin, hcl⟩ := fd_vin ⟨hi0, hi1⟩ (by omega)
    have hce := fd_ws_get (g := g) (ph := ph) (M := M) hlt
    rw [fd_ce_ref hsh (by decide)] at hce
    have hcx := fd_ws_get (g := g) (ph := ph) (M := M) hltx
    rw [fd_ce_obj hsx (by decide)] at hcx
    rw [List.map_cons, List.map_cons, List.map_cons, show fd_cv g (fd_R a) = .ref (g.1 + a) from fd_rv_lt (by omega), show fd_cv g (fd_R x) = .ref (g.1 + x) from fd_rv_lt (by omega)]
    refine fd_raast hx hb hK hH.2.2.2.2 fd_ws_D hS a 3 x 5 hce rfl hcx (fd_clD_get (by decide)) hin hd (fun H1 l1 z hP1 hS1 => ?_)
    have k1 := kk (pc + 1) H1 l1 la (fd_nxt hnx (by decide)) (fd_hp_up hH hlt (fun _ => z) _ (by
      rw [fd_ce_ref hsh (by decide), hcl]
      congr 8
      funext k
      rw [fd_up_at]
      by_cases h : k = j.toNat
      · simp [va_up, h, fd_ro, show x < 1000 by omega]
      · simp [va_up, h]) hP1) hS1 hl
    rw [show fd_ap (fd_up M a j.toNat x) = fd_ap M from by show Int.toNat _ = _; rw [fd_up_ap h213]] at k1
    exact k1
  · obtain ⟨hsh, hal, hi0, hi1⟩ := fd_isA_inv hg
    obtain ⟨hsx, halx⟩ := fd_isO_inv hv
    obtain ⟨hlt, h213⟩ := fd_lt_ap hH hal (by omega)
    obtain ⟨hltx, hx213⟩ := fd_lt_ap hH halx (by omega)
    have hn3 := (fd_sh_at (c := a) (by omega)).2.2
    obtain ⟨hin, hcl⟩ := fd_vin ⟨hi0, hi1⟩ (by omega)
    have hce := fd_ws_get (g := g) (ph := ph) (M := M) hlt
    rw [fd_ce_ref hsh (by decide)] at hce
    have hcx := fd_ws_get (g := g) (ph := ph) (M := M) hltx
    rw [fd_ce_obj hsx (by decide)] at hcx
    rw [List.map_cons, List.map_cons, List.map_cons, show fd_cv g (fd_R a) = .ref (g.1 + a) from fd_rv_lt (by omega), show fd_cv g (fd_R x) = .ref (g.1 + x) from fd_rv_lt (by omega)]
    refine fd_raast hx hb hK hH.2.2.2.2 fd_ws_D hS a 4 x 2 hce rfl hcx (fd_clD_get (by decide)) hin hd (fun H1 l1 z hP1 hS1 => ?_)
    have k1 := kk (pc + 1) H1 l1 la (fd_nxt hnx (by decide)) (fd_hp_up hH hlt (fun _ => z) _ (by
      rw [fd_ce_ref hsh (by decide), hcl]
      congr 8
      funext k
      rw [fd_up_at]
      by_cases h : k = j.toNat
      · simp [va_up, h, fd_ro, show x < 1000 by omega]
      · simp [va_up, h]) hP1) hS1 hl
    rw [show fd_ap (fd_up M a j.toNat x) = fd_ap M from by show Int.toNat _ = _; rw [fd_up_ap h213]] at k1
    exact k1
theorem fd_k36 (cx : fd_cx g p R s m args meth c mm) (hok : fd_okI (fd_y mm).cls (fd_b mm) (fd_ini mm) (fd_pcs mm) pc ((fd_pcs mm).getD (i + 1) 0) 36 as = true) (hn : fd_nx ph 36 as L st M = some (true, L', st', M')) (kk : fd_Go g ph p l e R s m args below meth c mm a0 Q (i + 1) L' st' M') (hH : fd_hp g ph M H) (hS : va_S (fd_A g) s.heap H locs) (hl : fd_lr g la (fd_mL mm) L) : W p l e R s m args below meth c H locs (fd_ap M - a0) (fd_sl (fd_ap M) - fd_sl a0) Q (F0 m pc la (st.map (fd_cv g))) := by
  obtain ⟨hx, hb, hml, hr, hown, hts, hlk, hini, ⟨hK, hNw, hSt⟩, hbs, h177, hfr, hlo⟩ := cx
  obtain ⟨hd, hnx⟩ := fd_dc_inv (show fd_dc (fd_b mm) pc _ .arraylength 1 = true from hok)
  obtain ⟨a, r, rfl, hn1⟩ := fd_pR_inv hn
  obtain ⟨hg, rfl, rfl, rfl⟩ := fd_some4 hn1
  rw [Bool.and_eq_true, Bool.and_eq_true] at hg
  have h20 : 20 ≤ (fd_SH a).1 := by simpa using hg.1
  have h24 : (fd_SH a).1 ≤ 24 := by simpa using hg.2.1
  obtain ⟨hlt, h213⟩ := fd_lt_ap hH hg.2.2 h24
  have hce := fd_ws_get (g := g) (ph := ph) (M := M) hlt
  have k1 := kk (pc + 1) H locs la (fd_nxt hnx (by decide)) hH hS hl
  rw [List.map_cons, show fd_cv g (fd_R a) = .ref (g.1 + a) from fd_rv_lt (by omega)]
  have hcase : (fd_SH a).1 = 20 ∨ (fd_SH a).1 = 21 ∨ (fd_SH a).1 = 22 ∨ (fd_SH a).1 = 23 ∨ (fd_SH a).1 = 24 := by omega
  rcases hcase with h | h | h | h | h
  · rw [fd_ce_int h (by decide) (by decide)] at hce
    exact va_alen hx hb hK hH.2.2.2.2 a 0 hce rfl (fd_oi _).symm hd k1
  · rw [fd_ce_int h (by decide) (by decide)] at hce
    exact va_alen hx hb hK hH.2.2.2.2 a 1 hce rfl (fd_oi _).symm hd k1
  · rw [fd_ce_int h (by decide) (by decide)] at hce
    exact va_alen hx hb hK hH.2.2.2.2 a 2 hce rfl (fd_oi _).symm hd k1
  · rw [fd_ce_ref h (by decide)] at hce
    exact va_alen hx hb hK hH.2.2.2.2 a 3 hce rfl (fd_oi _).symm hd k1
  · rw [fd_ce_ref h (by decide)] at hce
    exact va_alen hx hb hK hH.2.2.2.2 a 4 hce rfl (fd_oi _).symm hd k1
theorem fd_k43 (cx : fd_cx g p R s m args meth c mm) (hok : fd_okI (fd_y mm).cls (fd_b mm) (fd_ini mm) (fd_pcs mm) pc ((fd_pcs mm).getD (i + 1) 0) 43 as = true) (hn : fd_nx ph 43 as L st M = some (true, L', st', M')) (kk : fd_Go g ph p l e R s m args below meth c mm a0 Q (i + 1) L' st' M') (hH : fd_hp g ph M H) (hS : va_S (fd_A g) s.heap H locs) (hl : fd_lr g la (fd_mL mm) L) : W p l e R s m args below meth c H locs (fd_ap M - a0) (fd_sl (fd_ap M) - fd_sl a0) Q (F0 m pc la (st.map (fd_cv g))) := by
  obtain ⟨hx, hb, hml, hr, hown, hts, hlk, hini, ⟨hK, hNw, hSt⟩, hbs, h177, hfr, hlo⟩ := cx
  obtain ⟨hd, hnx⟩ := fd_dc_inv (show fd_dc (fd_b mm) pc _ .iaload 1 = true from hok)
  obtain ⟨j, r, rfl, hn1⟩ := fd_pI_inv hn
  obtain ⟨a, r, rfl, hn2⟩ := fd_pR_inv hn1
  obtain ⟨hg, rfl, rfl, rfl⟩ := fd_some4 hn2
  rw [Bool.and_eq_true, Bool.or_eq_true, fd_inb_iff] at hg
  obtain ⟨hin, hcl⟩ := fd_vin (n := 4) hg.2 (by decide)
  have k1 := kk (pc + 1) H locs la (fd_nxt hnx (by decide)) hH hS hl
  have ej : ((j.toNat : Nat) : Int) = j := Int.toNat_of_nonneg hg.2.1
  rcases hg.1 with h | h
  · have h := Nat.eq_of_beq_eq_true h
    subst h
    exact va_ti hx hb hSt.2.1 hS hin (by rw [hcl, ej]; rfl) hd k1
  · have h := Nat.eq_of_beq_eq_true h
    subst h
    exact va_ti hx hb hSt.2.2.2 hS hin (by rw [hcl, ej]; rfl) hd k1
end fdK2
