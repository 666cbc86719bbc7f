/-! Many seconds -/
def f_secs (n : Nat) (V : Int → Int) : Int → Int := sp_it (fun _ => f_sec) n 0 V
/-- what goes along when seconds pass -/
def scI (V0 : Int → Int) (i : Int) (x : Int → Int) : Prop := pr_T x ∧ hd V0 x ∧ x 48 = V0 48 + i
theorem scI.step {V0 x : Int → Int} {i : Int} (hW : pr_W V0) (hI : scI V0 i x) (h6 : V0 48 + i < 600) : scI V0 (i + 1) (f_sec x) := by
  obtain ⟨a, b, c⟩ := hI
  obtain ⟨q1, q2, q3⟩ := f_sec_ok (b.W hW) a (by omega)
  exact ⟨q1, b.tr q2, by omega⟩
section PC
variable {V : Int → Int} {h : mm_H} {m pl : Int}
theorem f_secs_ok (hW : pr_W V) (hT : pr_T V) {n : Nat} (hn : V 48 + n ≤ 600) : scI V n (f_secs n V) := by
  obtain ⟨s', -, hh⟩ := sp_it_rel (σ := Unit) (β := Unit) (R := fun _ _ => ()) (f := fun _ => f_sec) (I := fun i _ x => scI V i x) (N := (n : Int)) (fun i s x h0 h1 hI => ⟨(), rfl, hI.step hW (by omega)⟩) n 0 () V (by omega) (by omega) ⟨hT, hd.rf V, by omega⟩
  exact hh
theorem cl_passAll (hP : pr_P h pl V) (hM : pr_M h m V) (hW : pr_W V) (hT : pr_T V) {n : Int} (h0 : 0 ≤ n) (h1 : n ≤ 60) (hj : pl + 9 < m ∨ m + 3 < pl) (d : Nat) : ∃ h', mm_M mm_prog (d + 5) 33 [(12, m), (14, pl), (0, n)] h = some (if V 48 + n ≤ 600 then 0 else 1, h') ∧ pr_M h' m (if V 48 + n ≤ 600 then f_secs n.toNat V else V) ∧ fr m h h' := by
  rw [e_X2_passAll, cl_left hM hT.1, Option.bind_some]
  dsimp only
  by_cases c : V 48 + n ≤ 600
  · rw [if_neg (by omega), if_pos c, if_pos c]
    obtain ⟨h2, r2, M2, F2, I2⟩ := sp_it_rel (R := fun i s => mm_R mm_prog (d + 4) T_X2_passAll 12 [(12, m), (14, pl), (0, n), (0, i)] [] s) (f := fun _ => f_sec) (I := fun i s x => pr_M s m x ∧ fr m h s ∧ scI V i x) (N := n) (fun i s x i0 i1 hI => by
      obtain ⟨sM, sF, sI⟩ := hI
      obtain ⟨s', e, M', F'⟩ := cl_sec (sI.2.1.P hW (hP.fr sF hj)) sM (sI.2.1.W hW) sI.1 (by have := sI.2.2; omega) hj d
      refine ⟨s', ?_, M', sF.tr F', sI.step hW (by omega)⟩
      rw [e_X2_passAll_12, if_pos i1, e, Option.bind_some, pu_w (by omega) (by omega)]) n.toNat 0 h V (by omega) (by omega) ⟨hM, fr_rf m h, hT, hd.rf V, by omega⟩
    refine ⟨h2, ?_, M2, F2⟩
    rw [r2, e_X2_passAll_12, if_neg (by omega)]
  · rw [if_pos (by omega), if_neg c, if_neg c]
    exact ⟨h, rfl, hM, fr_rf m h⟩
theorem rf_passSeconds (hW : pr_W V) (hT : pr_T V) {n : Int} (h0 : 0 ≤ n) (h1 : n ≤ 60) (d : Nat) : mm_M mm_prog (d + 5) 224 [(21, 133), (0, n)] (vs h V) = some (min n (600 - V 48), vs h (f_secs (min n (600 - V 48)).toNat V)) := by
  have b48 := hT.1.1
  rw [e_X12_passSeconds, r135, vs_at, pu_w (by omega) (by omega), rf_least, Option.bind_some]
  dsimp only
  generalize hk : min n (600 - V 48) = k
  have hk0 : 0 ≤ k ∧ k ≤ 60 ∧ V 48 + k ≤ 600 := by omega
  obtain ⟨h2, r2, E2, I2⟩ := sp_it_rel (R := fun i s => mm_R mm_prog (d + 4) T_X12_passSeconds 18 [(21, 133), (0, n), (0, k), (0, i)] [] s) (f := fun _ => f_sec) (I := fun i s x => s = vs h x ∧ scI V i x) (N := k) (fun i s x i0 i1 hI => by
    obtain ⟨rfl, sI⟩ := hI
    refine ⟨vs h (f_sec x), ?_, rfl, sI.step hW (by omega)⟩
    rw [e_X12_passSeconds_18, if_pos i1, rf_sec (sI.2.1.W hW) sI.1 (by have := sI.2.2; omega), Option.bind_some, pu_w (by omega) (by omega)]) k.toNat 0 (vs h V) V (by omega) (by omega) ⟨rfl, hT, hd.rf V, by omega⟩
  rw [r2, e_X12_passSeconds_18, if_neg (by omega), E2]
  rfl
/-- what is so laid aside -/
def asd (h : mm_H) (V : Int → Int) (n : Int) : mm_H := fun o k => if o = 139 ∧ 0 ≤ k ∧ k < n then V (48 + k) else h o k
theorem rf_layAside (d : Nat) : mm_M mm_prog (d + 1) 229 [(21, 133)] (vs h V) = some (0, vs (asd h V 26) V) := by
  rw [e_X12_layAside]
  obtain ⟨h2, r2, E2⟩ := sp_it_rel (R := fun i s => mm_R mm_prog d T_X12_layAside 2 [(21, 133), (0, i)] [] s) (f := fun _ (x : Unit) => x) (I := fun i s _ => s = vs (asd h V i) V) (N := 26) (fun i s x i0 i1 hI => by
    subst hI
    refine ⟨vs (asd h V (i + 1)) V, ?_, rfl⟩
    rw [e_X12_layAside_2, if_pos i1, pu_w (x := 48 + i) (by omega) (by omega), if_pos (by omega), if_pos (by omega), r135, vs_at, show (133 : Int) + 6 = 139 from rfl, vs_upo (by decide), pu_w (by omega) (by omega)]
    congr 1
    congr 1
    funext o k
    unfold mm_up asd
    by_cases e : o = 139
    · by_cases e2 : k = i
      · rw [if_pos ⟨e, e2⟩, if_pos ⟨e, by omega, by omega⟩, e2]
      · rw [if_neg (by omega)]
        by_cases e3 : 0 ≤ k ∧ k < i
        · rw [if_pos ⟨e, e3⟩, if_pos ⟨e, by omega, by omega⟩]
        · rw [if_neg (by omega), if_neg (by omega)]
    · rw [if_neg (by omega), if_neg (by omega), if_neg (by omega)]) 26 0 (vs h V) () (by decide) (by decide) (by
      congr 1
      funext o k
      unfold asd
      rw [if_neg (by omega)])
  rw [r2, e_X12_layAside_2, if_neg (by decide), E2]
theorem rf_takeBack {x : Int → Int} (hx : hd V x) (d : Nat) : mm_M mm_prog (d + 1) 230 [(21, 133)] (vs (asd h V 26) x) = some (0, vs (asd h V 26) V) := by
  rw [e_X12_takeBack]
  obtain ⟨h2, r2, E2⟩ := sp_it_rel (R := fun i s => mm_R mm_prog d T_X12_takeBack 2 [(21, 133), (0, i)] [] s) (f := fun _ (x : Unit) => x) (I := fun i s _ => s = vs (asd h V 26) (fun j => if 48 ≤ j ∧ j < 48 + i then V j else x j)) (N := 26) (fun i s y i0 i1 hI => by
    subst hI
    refine ⟨vs (asd h V 26) (fun j => if 48 ≤ j ∧ j < 48 + (i + 1) then V j else x j), ?_, rfl⟩
    rw [e_X12_takeBack_2, if_pos i1, if_pos (by omega), pu_w (x := 48 + i) (by omega) (by omega), if_pos (by omega), r135, vs_up, show (133 : Int) + 6 = 139 from rfl, vs_ne (by decide), pu_w (by omega) (by omega)]
    congr 2
    funext j
    unfold vu asd
    by_cases e : j = 48 + i
    · rw [if_pos e, if_pos ⟨rfl, by omega, by omega⟩, if_pos (by omega), e]
    · rw [if_neg e]
      dsimp only
      by_cases e3 : 48 ≤ j ∧ j < 48 + i
      · rw [if_pos e3, if_pos (by omega)]
      · rw [if_neg e3, if_neg (by omega)]) 26 0 (vs (asd h V 26) x) () (by decide) (by decide) (by
      congr 1
      funext j
      rw [if_neg (by omega)])
  rw [r2, e_X12_takeBack_2, if_neg (by decide), E2]
  congr 3
  funext j
  by_cases e : 48 ≤ j ∧ j < 48 + 26
  · rw [if_pos e]
  · rw [if_neg e]
    exact hx j (by omega)
end PC
