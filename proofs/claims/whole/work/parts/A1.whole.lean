/-! new HiccupTownModel(), in the law -/
section LM
variable {p : Program} {l : Launch} {e : Env} {s : State} {m : MethodId} {below : List Frame} {meth : Method} {c : Code} {b : Nat} {g : Nat → Nat → Nat} {D : va_G} {cy : Nat → ClassId} {H : Heap} {locs : List Loc} {ls : Array Slot} {cells slots : Nat} {Q : State → Prop} {r : Nat → Nat}
set_option maxHeartbeats 4000000 in
set_option maxRecDepth 100000 in
theorem lw_model (hx : p.tables.exec = Jvm.exec) (hb : c.code = code) (hml : c.maxLocals = 7) (hown : s.vm.findClass R_law = some m.cls) (hts : ∀ w ∈ mm_TW, w.before #[Value.ref b] s = true) (hK : va_K D vwCl (mm_tys cy) s) (hZ : mm_Z g (fun q => s.heap.size ≤ q) s s.heap) (hN : mm_nw g s) (hO : mk_ao s) (hw1 : ∀ i j, i < 36 → j < 36 → g 1 i = g 1 j → i = j)
    (hP : va_P D vwCl ([] ++ nw 133 r (ce_Town cy g r)) H) (hD : va_D (fun q => s.heap.size ≤ q) ([] ++ nw 133 r (ce_Town cy g r))) (hS : va_S (fun q => s.heap.size ≤ q) s.heap H locs) (hls : ls.size = 7) (hc : cells + 20 ≤ 601024) (hs : slots + 3384 ≤ 7293034)
    (kk : ∀ (q : Nat) (u : (Nat → Nat) × mm_H) (H1 : Heap) (locs1 : List Loc), Inv u.2 → mm_rg u.2 → va_P D vwCl (mm_ws (mm_g g r q u.1) cy u.2) H1 → mm_inj (mm_g g r q u.1) → (∀ z, mm_A (mm_g g r q u.1) z → s.heap.size ≤ z) → va_S (fun q => s.heap.size ≤ q) s.heap H1 locs1 → W p l e room_1 s m #[Value.ref b] below meth c H1 locs1 (cells + 1 + 19) (slots + 47 + 3337) Q (F0 m 15 ls [.ref q])) :
    W p l e room_1 s m #[Value.ref b] below meth c H locs cells slots Q (F0 m 8 ls []) := by
  refine va_new (ci := 11) (fs := [.int 0, .null, .int 0, .int 0, .int 0, .int 0, .int 0, .int 0, .int 0, .int 0, .int 0, .int 0, .long 0, .int 0, .null, .null, .null, .null, .null, .null, .null, .null, .null, .null, .int 0, .int 0, .null, .null, .int 0, .int 0, .int 0, .null, .null, .int 0, .int 0, .null, .int 0, .int 0, .null, .null, .int 0, .int 0, .null, .int 0, .int 0, .int 0, .int 0]) (C := RX12) (T := TX12) (N := 47) hx hb hts mm_cw21 tyX12 tyX12_ok hown (hts _ (mm_tw6 89 rfl rfl)) (hts _ (mm_tw6 83 rfl rfl)) (hts _ (mm_tw1 14 rfl rfl)) hK hP hD hS (fun _ z => z) rfl (by decide) (show cells + 1 ≤ 601024 by omega) (show slots + 47 ≤ 7293034 by omega) dl_8 (fun q H1 hP1 hD1 hS1 => ?_)
  refine lv_dup hx hb dl_11 rfl ?_
  have hP2 : va_P D vwCl ((q, mk_bM) :: nw 133 r (ce_Town cy g r)) H1 := va_P.swap hP1
  have hD2 : va_D (fun q => s.heap.size ≤ q) ((q, mk_bM) :: nw 133 r (ce_Town cy g r)) := va_D.swap hD1
  have hF : ∀ x, va_A ((q, mk_bM) :: nw 133 r (ce_Town cy g r)) H1.size x → s.heap.size ≤ x := by
    intro x hx
    rcases hx with ⟨k, e9, h9⟩ | h9
    · exact hD2.2 _ _ h9
    · exact Nat.le_trans hS1.1 h9
  have hG : GoodIn mm_TW (mk_w yX12_init cX12_init 2) := by
    intro w hw
    have hm : w ∈ mm_TW := by
      rcases List.mem_cons.mp hw with e | h
      · rw [e]
        exact (mm_tw6 92 rfl rfl)
      · exact h
    exact ⟨hm, good_of_word (List.mem_filter.mp hm).2⟩
  have hpre : PreS s H1 (va_Pc [.ref q] (mk_V D cy g r s.heap.size q H1.size)) (.ref q :: []) :=
    ⟨mk_VFB, fun U hU hW => ⟨rfl, by rw [hU], by rw [hU]; exact hP2, hD2, va_K.moved hW.alike hK, by rw [hU]; exact (hZ.moved hW.alike).kept hS1.2.1, mm_nw.warm hW hN, hO.moved hW.alike, hS1.1, hw1⟩⟩
  have cw := callB_of (R := room_1) (own := R_law) (index := 18) 0 hts hG rfl (rm := mk_rm 6 19 3337) rfl rfl (hts _ (mm_tw1 14 rfl rfl)) (hts _ (mm_tw6 90 rfl rfl)) ⟨by decide +kernel, by decide +kernel, by decide +kernel⟩ ⟨Nat.le_of_ble_eq_true rfl, Nat.le_of_ble_eq_true rfl⟩
  refine va_callv (va_runI (As := []) (rest := [.ref q]) ⟨hx, hb, hml, hown, hts⟩ (mt_Model l D cy g r s.heap.size q H1.size) ⟨cw, rfl, hts _ (mm_tw6 91 rfl rfl)⟩ hpre rfl rfl hls rfl (lv_room (by simp [Value.category])) dl_12 ⟨show cells + 1 + 19 ≤ 601024 by omega, show slots + 47 + 3337 ≤ 7293034 by omega⟩) hS1 (fun x _ z => hF x z) hF (fun u t1 H2 locs2 ht hvm hw hB hz1 hk1 hS2 => ?_)
  obtain ⟨hP3, hI3, hA3⟩ := hB
  rw [ht] at hP3
  exact kk q u H2 locs2 hw.1 hw.2 hP3 hI3 (fun z hz => hF z (hA3 z hz)) hS2
end LM
set_option maxHeartbeats 4000000 in
set_option maxRecDepth 100000 in
theorem whole_start {p : Program} {e : Env} {s : State} {m : MethodId} {below : List Frame} {meth : Method} {c : Code} (l : Launch) (hflags : l.flags = flags0) {b L : Nat} {xs : Nat → Int32} (hL : L ≤ 3072) (C0 : lw_At p s m meth c b L xs) : W p l e room_1 s m #[Value.ref b] below meth c s.heap [] 0 0 (lw_Z below #[Value.ref b] s) (entryFrame m ([Value.ref b] : List Value).toArray 7) := by
  obtain ⟨hx, hb, hr, hml, hown, hts0, hX, hbl, hlocks, hgv⟩ := id C0
  have hst : l.stackTraces = false := by
    unfold Launch.stackTraces
    rw [hflags]
    decide +kernel
  have hts : ∀ w ∈ mm_TW, w.before #[Value.ref b] s = true := fun w hw => hts0 w (List.mem_filter.mp hw).1
  have hA0 : ∀ a : Nat, a < s.heap.size → ¬ (fun q : Nat => s.heap.size ≤ q) a := fun a h => Nat.not_le.mpr h
  obtain ⟨g, hZ, hN, hw1⟩ := bg_all hgv hts0 hA0
  obtain ⟨sa, sb, hXN⟩ := bg_ns hgv hts0 hA0
  obtain ⟨D, cy, hK⟩ := bg_K hts0
  have hO := bg_ao hts0
  have hP0 : va_P D vwCl [] s.heap := fun k q h => by simp at h
  have hD0 : va_D (fun q : Nat => s.heap.size ≤ q) [] := ⟨fun i j p q h => by simp at h, fun k q h => by simp at h⟩
  have hle := lv_entry ([.ref b]) (n := 7) (Nat.le_of_ble_eq_true rfl)
  rw [lg_entry_eq]
  generalize (lg_sl ([.ref b]) ++ List.replicate (7 - (lg_sl ([.ref b])).length) Slot.unset).toArray = ls at hle ⊢
  have hl : lv_has ls 7 [(0, .ref b)] := hle
  refine mk_obj (own := R_law) (host := "") (nM := 2) (f := 3) (n := 132) (S := 2944) (ce := ce_Town cy g) (fs := [.null, .null, .null, .null, .null, .null, .null, .null, .null, .null, .null, .null, .int 0, .int 0, .int 0]) (z0 := s.heap.size) (A := fun q => s.heap.size ≤ q) (ws := []) hx hb hml hown hts hK hZ hN hO hP0 hD0 va_S.rf (fun _ z => z) (fun _ z => z) hl.1 20 (by decide) (by decide) rfl tyX11 tyX11_ok (by decide) (mm_tw1 25 rfl rfl) (mm_tw1 26 rfl rfl) (mm_tw1 1 rfl rfl) (mt_Town l D cy g s.heap.size) (mm_tw1 29 rfl rfl) rfl rfl (mm_tw1 28 rfl rfl) (Or.inl (mm_tw1 27 rfl rfl)) ⟨by decide +kernel, by decide +kernel, by decide +kernel⟩ ⟨Nat.le_of_ble_eq_true rfl, Nat.le_of_ble_eq_true rfl⟩ (Nat.le_of_ble_eq_true rfl) (Nat.le_of_ble_eq_true rfl) (by simp) dl_0 dl_3 dl_4 (fun r H locs hP hD hS => ?_)
  refine lv_astore_n (lv' := [(1, .ref (r 0)), (0, .ref b)]) hx hb dl_7 rfl hl (by decide) rfl (fun ls1 hl1 => ?_)
  refine lw_model hx hb hml hown hts hK hZ hN hO hw1 hP hD hS hl1.1 (Nat.le_of_ble_eq_true rfl) (Nat.le_of_ble_eq_true rfl) (fun q u H1 locs1 hI hR hP1 hinj hgA hS1 => ?_)
  refine lv_astore_n (lv' := [(2, .ref q), (1, .ref (r 0)), (0, .ref b)]) hx hb dl_15 rfl hl1 (by decide) rfl (fun ls2 hl2 => ?_)
  refine lv_iconst (v := 1) hx hb dl_16 rfl ?_
  have hD1 : va_D (fun q => s.heap.size ≤ q) (mm_ws (mm_g g r q u.1) cy u.2) := (mm_D hinj cy u.2).weaken (fun _ x _ z => hgA x.1 z)
  refine mk_al hx hb hts hK hP1 hD1 hS1 (fun _ z => z) (n := 1) 1 (by decide) (by decide) (by decide) (Nat.le_of_ble_eq_true rfl) (Nat.le_of_ble_eq_true rfl) dl_17 (fun out H2 hP2 hD2 hS2 => ?_)
  have hat : (mm_ws (mm_g g r q u.1) cy u.2 ++ [(out, (.inl (cy 1, 1, .inr (.inl fun _ => 0)) : va_E))])[153]? = some (out, .inl (cy 1, 1, .inr (.inl fun _ => 0))) := lp_at
  have hoA : s.heap.size ≤ out := hD2.2 153 _ hat
  have hno : ¬ mm_A (mm_g g r q u.1) out := by
    rintro ⟨o, ho, eo⟩
    have h2 : (mm_ws (mm_g g r q u.1) cy u.2 ++ [(out, (.inl (cy 1, 1, .inr (.inl fun _ => 0)) : va_E))])[o]? = some (mm_g g r q u.1 0 o, mm_ce (mm_g g r q u.1) cy u.2 o) := by
      rw [List.getElem?_append_left (by rw [lp_len]; exact ho), mm_ws_get ho]
    have := hD2.1 153 o _ _ hat h2 eo
    omega
  refine lv_astore_n (lv' := [(3, .ref out), (2, .ref q), (1, .ref (r 0)), (0, .ref b)]) hx hb dl_19 rfl hl2 (by decide) rfl (fun ls3 hl3 => ?_)
  refine lv_iconst (v := 0) hx hb dl_20 rfl ?_
  refine lv_istore (lv' := [(4, .int 0), (3, .ref out), (2, .ref q), (1, .ref (r 0)), (0, .ref b)]) hx hb dl_21 hl3 (by decide) rfl (fun ls4 hl4 => ?_)
  refine W.widen (k := 154 + 0) (n := 6344 + 6 * 0) (Nat.le_of_ble_eq_true rfl) (Nat.le_of_ble_eq_true rfl) ?_
  exact lw_loop (g := mm_g g r q u.1) (D := D) (cy := cy) (sa := sa) (sb := sb) (out := out) ⟨C0, hst, hinj, hK, mm_Z_g hZ, mm_nw_g hN, hXN, hgA, hoA, hno⟩ hL (L + 1) 0 (by omega) (by omega) H2 locs1 u.2 (fun _ => 0) ls4 ⟨hR, hP2, hS2⟩ hI hl4
