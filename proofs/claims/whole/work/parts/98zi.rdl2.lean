/-- what was told so far, if anything -/
def JS (uc : mU) (vc : mV) (um : mU) (vm : mV) (D M : Nat) : Prop := JZ uc um D M ∨ ∃ N, J1 uc um D M N ∧ J2 uc vc um vm M N
section RL2
variable {T D m T2 D2 m2 M : Nat} {c3 c4 c3b : sF} {uc um : mU} {vc vm : mV} {L s k x nn : Nat} {l : List Nat} {N : Nat → Nat}
/-- the class's line of sort i -/
abbrev clI (T D m : Nat) (c3 c4 : sF) (uc : mU) (vc : mV) (i : Nat) : Option (Int32 × qS) := (f_X3_count (Rep (SH T D c3 c4 m) uc vc) D 0).bind fun v3 => if v3 ≤ 0 then (J_X6_readLine_37 1 (nI i) 0 (Rep (SH T D c3 c4 m) uc vc)) else (J_X6_readLine_37 1 (nI i) 1 (Rep (SH T D c3 c4 m) uc vc))
theorem clI_z {i : Nat} (ho : okTD T D) (hZ : JZ uc um D M) : clI T D m c3 c4 uc vc i = J_X6_readLine_37 1 (nI i) 0 (Rep (SH T D c3 c4 m) uc vc) := by
  have e := cnt_D (T := T) (D := D) (m := m) (c3 := c3) (c4 := c4) (uc := uc) (vc := vc) (c := 0) (n := 0) ho (by decide) (by rw [(hZ.1 0 (by decide)).1, nI_0])
  rw [nI_0] at e
  unfold clI
  rw [e, Option.bind_some, if_pos (by decide)]
theorem clI_n {i : Nat} (ho : okTD T D) (hJ : J1 uc um D M N) : clI T D m c3 c4 uc vc i = J_X6_readLine_37 1 (nI i) 1 (Rep (SH T D c3 c4 m) uc vc) := by
  have h2 : 2 ≤ N 0 := hJ.2.2.2.2.2.2.2.2.2.2
  have b0 : N 0 ≤ 7 := (hJ.1 0 (by decide)).2.2
  have e := cnt_D (T := T) (D := D) (m := m) (c3 := c3) (c4 := c4) (uc := uc) (vc := vc) (c := 0) (n := N 0) ho (by decide) (hJ.1 0 (by decide)).1
  rw [nI_0] at e
  unfold clI
  rw [e, Option.bind_some, if_neg (nI_nle (by omega) (by omega))]
theorem ls_1 (ho : okTD T D) (hMs : mSh (SH T2 D2 c3b (fR M) m2) M) (hM : 88 ≤ M) (h : TKR L uc vc um vm s 1 l x) (hJ : JS uc vc um vm D M) : LNE T D m c3 c4 T2 D2 m2 M c3b L s uc um (clI T D m c3 c4 uc vc 1) (f_X12_readThing (Rep (SH T2 D2 c3b (fR M) m2) um vm) 75) := by
  have hD : D = 54 ∨ D = 3 := by rcases ho with ⟨rfl, rfl⟩ | ⟨rfl, rfl⟩ <;> simp
  have eF : f_X12_readThing (Rep (SH T2 D2 c3b (fR M) m2) um vm) 75 = (f_X12_begins (Rep (SH T2 D2 c3b (fR M) m2) um vm) 75 (um M 2) 4).bind (mThing) := by
    unfold f_X12_readThing
    rw [gC_75, Option.bind_some, gR_75_4, Option.bind_some, mI_2 hMs, Option.bind_some]
    rfl
  rw [eF]
  rcases hJ with hZ | ⟨N, hJ, hJ2⟩
  · rw [clI_z ho hZ]
    exact line_z (by omega) hM hMs h hZ (by rw [(hZ.1 2 (by decide)).2]; decide) (fun w z nn a b c => mThing_dead hMs a b c)
  · rw [clI_n ho hJ]
    have bc : N 2 ≤ 4 := (hJ.1 2 (by decide)).2.2
    have mc : um M 2 = nI (N 2) := (hJ.1 2 (by decide)).2.1
    have ec : f_X3_count (Rep (SH T D c3 c4 m) uc vc) D 2 = some (nI (N 2)) := cnt_D (c := 2) ho (by decide) (hJ.1 2 (by decide)).1
    have ei : f_X6_isFull (Rep (SH T D c3 c4 m) uc vc) 1 (nI 1) = if nI (N 2) < 4 then some 0 else some 1 := by
      unfold f_X6_isFull
      rw [gC_1, Option.bind_some, if_pos (by decide), gR_1_2, Option.bind_some, ec, Option.bind_some]
    refine line_x (by omega) hM hMs h rfl hJ hJ2 (fun w z nn a b c => mThing_dead hMs a b c) ?_ (fun ha u1 v1 w1 z1 s1 k1 l1 x1 t1 g1 g2 => ln_thing ho hMs hM t1 g1 g2 ?_) hD
    · by_cases cl : N 2 < 4
      · refine Or.inr ⟨?_, ?_⟩
        · rw [mc]
          intro z
          have := (nI_eq (a := N 2) (b := 4) (by omega) (by omega)).mp z
          omega
        · rw [ei, if_pos (show nI (N 2) < (4 : Int32) from (show nI (N 2) < nI 4 from nI_lt cl (by omega)))]
      · refine Or.inl ⟨?_, ?_⟩
        · rw [mc, show N 2 = 4 by omega]
          rfl
        · rw [ei, if_neg (show ¬ nI (N 2) < (4 : Int32) from (show ¬ nI (N 2) < nI 4 from nI_nlt (by omega) (by omega)))]
    · by_cases cl : N 2 < 4
      · exact cl
      · exfalso
        refine ha ?_
        rw [mc, show N 2 = 4 by omega]
        rfl
theorem ls_2 (ho : okTD T D) (hMs : mSh (SH T2 D2 c3b (fR M) m2) M) (hM : 88 ≤ M) (h : TKR L uc vc um vm s 1 l x) (hJ : JS uc vc um vm D M) : LNE T D m c3 c4 T2 D2 m2 M c3b L s uc um (clI T D m c3 c4 uc vc 2) (f_X12_readPersonLine (Rep (SH T2 D2 c3b (fR M) m2) um vm) 75) := by
  have hD : D = 54 ∨ D = 3 := by rcases ho with ⟨rfl, rfl⟩ | ⟨rfl, rfl⟩ <;> simp
  have eF : f_X12_readPersonLine (Rep (SH T2 D2 c3b (fR M) m2) um vm) 75 = (f_X12_begins (Rep (SH T2 D2 c3b (fR M) m2) um vm) 75 (um M 3) 5).bind (mPers) := by
    unfold f_X12_readPersonLine
    rw [gC_75, Option.bind_some, gR_75_4, Option.bind_some, mI_3 hMs, Option.bind_some]
    rfl
  rw [eF]
  rcases hJ with hZ | ⟨N, hJ, hJ2⟩
  · rw [clI_z ho hZ]
    exact line_z (by omega) hM hMs h hZ (by rw [(hZ.1 3 (by decide)).2]; decide) (fun w z nn a b c => mPers_dead hMs a b c)
  · rw [clI_n ho hJ]
    have bc : N 3 ≤ 5 := (hJ.1 3 (by decide)).2.2
    have mc : um M 3 = nI (N 3) := (hJ.1 3 (by decide)).2.1
    have ec : f_X3_count (Rep (SH T D c3 c4 m) uc vc) D 3 = some (nI (N 3)) := cnt_D (c := 3) ho (by decide) (hJ.1 3 (by decide)).1
    have ei : f_X6_isFull (Rep (SH T D c3 c4 m) uc vc) 1 (nI 2) = if nI (N 3) < 5 then some 0 else some 1 := by
      unfold f_X6_isFull
      rw [gC_1, Option.bind_some, if_neg (by decide), if_pos (by decide), gR_1_2, Option.bind_some, ec, Option.bind_some]
    refine line_x (by omega) hM hMs h rfl hJ hJ2 (fun w z nn a b c => mPers_dead hMs a b c) ?_ (fun ha u1 v1 w1 z1 s1 k1 l1 x1 t1 g1 g2 => ln_pers ho hMs hM t1 g1 g2 ?_) hD
    · by_cases cl : N 3 < 5
      · refine Or.inr ⟨?_, ?_⟩
        · rw [mc]
          intro z
          have := (nI_eq (a := N 3) (b := 5) (by omega) (by omega)).mp z
          omega
        · rw [ei, if_pos (show nI (N 3) < (5 : Int32) from (show nI (N 3) < nI 5 from nI_lt cl (by omega)))]
      · refine Or.inl ⟨?_, ?_⟩
        · rw [mc, show N 3 = 5 by omega]
          rfl
        · rw [ei, if_neg (show ¬ nI (N 3) < (5 : Int32) from (show ¬ nI (N 3) < nI 5 from nI_nlt (by omega) (by omega)))]
    · by_cases cl : N 3 < 5
      · exact cl
      · exfalso
        refine ha ?_
        rw [mc, show N 3 = 5 by omega]
        rfl
theorem ls_3 (ho : okTD T D) (hMs : mSh (SH T2 D2 c3b (fR M) m2) M) (hM : 88 ≤ M) (h : TKR L uc vc um vm s 1 l x) (hJ : JS uc vc um vm D M) : LNE T D m c3 c4 T2 D2 m2 M c3b L s uc um (clI T D m c3 c4 uc vc 3) (f_X12_readTram (Rep (SH T2 D2 c3b (fR M) m2) um vm) 75) := by
  have hD : D = 54 ∨ D = 3 := by rcases ho with ⟨rfl, rfl⟩ | ⟨rfl, rfl⟩ <;> simp
  have eF : f_X12_readTram (Rep (SH T2 D2 c3b (fR M) m2) um vm) 75 = (f_X12_begins (Rep (SH T2 D2 c3b (fR M) m2) um vm) 75 (um M 4) 4).bind (mTram) := by
    unfold f_X12_readTram
    rw [gC_75, Option.bind_some, gR_75_4, Option.bind_some, mI_4 hMs, Option.bind_some]
    rfl
  rw [eF]
  rcases hJ with hZ | ⟨N, hJ, hJ2⟩
  · rw [clI_z ho hZ]
    exact line_z (by omega) hM hMs h hZ (by rw [(hZ.1 4 (by decide)).2]; decide) (fun w z nn a b c => mTram_dead hMs a b c)
  · rw [clI_n ho hJ]
    have bc : N 4 ≤ 4 := (hJ.1 4 (by decide)).2.2
    have mc : um M 4 = nI (N 4) := (hJ.1 4 (by decide)).2.1
    have ec : f_X3_count (Rep (SH T D c3 c4 m) uc vc) D 4 = some (nI (N 4)) := cnt_D (c := 4) ho (by decide) (hJ.1 4 (by decide)).1
    have ei : f_X6_isFull (Rep (SH T D c3 c4 m) uc vc) 1 (nI 3) = if nI (N 4) < 4 then some 0 else some 1 := by
      unfold f_X6_isFull
      rw [gC_1, Option.bind_some, if_neg (by decide), if_neg (by decide), if_pos (by decide), gR_1_2, Option.bind_some, ec, Option.bind_some]
    refine line_x (by omega) hM hMs h rfl hJ hJ2 (fun w z nn a b c => mTram_dead hMs a b c) ?_ (fun ha u1 v1 w1 z1 s1 k1 l1 x1 t1 g1 g2 => ln_tram ho hMs hM t1 g1 g2 ?_) hD
    · by_cases cl : N 4 < 4
      · refine Or.inr ⟨?_, ?_⟩
        · rw [mc]
          intro z
          have := (nI_eq (a := N 4) (b := 4) (by omega) (by omega)).mp z
          omega
        · rw [ei, if_pos (show nI (N 4) < (4 : Int32) from (show nI (N 4) < nI 4 from nI_lt cl (by omega)))]
      · refine Or.inl ⟨?_, ?_⟩
        · rw [mc, show N 4 = 4 by omega]
          rfl
        · rw [ei, if_neg (show ¬ nI (N 4) < (4 : Int32) from (show ¬ nI (N 4) < nI 4 from nI_nlt (by omega) (by omega)))]
    · by_cases cl : N 4 < 4
      · exact cl
      · exfalso
        refine ha ?_
        rw [mc, show N 4 = 4 by omega]
        rfl
theorem ls_4 (ho : okTD T D) (hMs : mSh (SH T2 D2 c3b (fR M) m2) M) (hM : 88 ≤ M) (h : TKR L uc vc um vm s 1 l x) (hJ : JS uc vc um vm D M) : LNE T D m c3 c4 T2 D2 m2 M c3b L s uc um (clI T D m c3 c4 uc vc 4) (f_X12_readGiver (Rep (SH T2 D2 c3b (fR M) m2) um vm) 75) := by
  have hD : D = 54 ∨ D = 3 := by rcases ho with ⟨rfl, rfl⟩ | ⟨rfl, rfl⟩ <;> simp
  have eF : f_X12_readGiver (Rep (SH T2 D2 c3b (fR M) m2) um vm) 75 = (f_X12_begins (Rep (SH T2 D2 c3b (fR M) m2) um vm) 75 (um M 5) 3).bind (mGivr) := by
    unfold f_X12_readGiver
    rw [gC_75, Option.bind_some, gR_75_4, Option.bind_some, mI_5 hMs, Option.bind_some]
    rfl
  rw [eF]
  rcases hJ with hZ | ⟨N, hJ, hJ2⟩
  · rw [clI_z ho hZ]
    exact line_z (by omega) hM hMs h hZ (by rw [(hZ.1 5 (by decide)).2]; decide) (fun w z nn a b c => mGivr_dead hMs a b c)
  · rw [clI_n ho hJ]
    have bc : N 5 ≤ 3 := (hJ.1 5 (by decide)).2.2
    have mc : um M 5 = nI (N 5) := (hJ.1 5 (by decide)).2.1
    have ec : f_X3_count (Rep (SH T D c3 c4 m) uc vc) D 5 = some (nI (N 5)) := cnt_D (c := 5) ho (by decide) (hJ.1 5 (by decide)).1
    have ei : f_X6_isFull (Rep (SH T D c3 c4 m) uc vc) 1 (nI 4) = if nI (N 5) < 3 then some 0 else some 1 := by
      unfold f_X6_isFull
      rw [gC_1, Option.bind_some, if_neg (by decide), if_neg (by decide), if_neg (by decide), if_pos (by decide), gR_1_2, Option.bind_some, ec, Option.bind_some]
    refine line_x (by omega) hM hMs h rfl hJ hJ2 (fun w z nn a b c => mGivr_dead hMs a b c) ?_ (fun ha u1 v1 w1 z1 s1 k1 l1 x1 t1 g1 g2 => ln_givr ho hMs hM t1 g1 g2 ?_) hD
    · by_cases cl : N 5 < 3
      · refine Or.inr ⟨?_, ?_⟩
        · rw [mc]
          intro z
          have := (nI_eq (a := N 5) (b := 3) (by omega) (by omega)).mp z
          omega
        · rw [ei, if_pos (show nI (N 5) < (3 : Int32) from (show nI (N 5) < nI 3 from nI_lt cl (by omega)))]
      · refine Or.inl ⟨?_, ?_⟩
        · rw [mc, show N 5 = 3 by omega]
          rfl
        · rw [ei, if_neg (show ¬ nI (N 5) < (3 : Int32) from (show ¬ nI (N 5) < nI 3 from nI_nlt (by omega) (by omega)))]
    · by_cases cl : N 5 < 3
      · exact cl
      · exfalso
        refine ha ?_
        rw [mc, show N 5 = 3 by omega]
        rfl
theorem ls_5 (ho : okTD T D) (hMs : mSh (SH T2 D2 c3b (fR M) m2) M) (hM : 88 ≤ M) (h : TKR L uc vc um vm s 1 l x) (hJ : JS uc vc um vm D M) : LNE T D m c3 c4 T2 D2 m2 M c3b L s uc um (clI T D m c3 c4 uc vc 5) (f_X12_readRow (Rep (SH T2 D2 c3b (fR M) m2) um vm) 75 1 (M + 8)) := by
  have hD : D = 54 ∨ D = 3 := by rcases ho with ⟨rfl, rfl⟩ | ⟨rfl, rfl⟩ <;> simp
  have eF : f_X12_readRow (Rep (SH T2 D2 c3b (fR M) m2) um vm) 75 1 (M + 8) = (f_X12_begins (Rep (SH T2 D2 c3b (fR M) m2) um vm) 75 (um M 6) 16).bind (mRide (M + 8)) := by
    unfold f_X12_readRow
    rw [gC_75, Option.bind_some, gR_75_4, Option.bind_some, mI_6 hMs, Option.bind_some]
    rfl
  rw [eF]
  rcases hJ with hZ | ⟨N, hJ, hJ2⟩
  · rw [clI_z ho hZ]
    exact line_z (by omega) hM hMs h hZ (by rw [(hZ.1 6 (by decide)).2]; decide) (fun w z nn a b c => mRide_dead hMs a b c)
  · rw [clI_n ho hJ]
    have bc : N 6 ≤ 16 := (hJ.1 6 (by decide)).2.2
    have mc : um M 6 = nI (N 6) := (hJ.1 6 (by decide)).2.1
    have ec : f_X3_count (Rep (SH T D c3 c4 m) uc vc) D 6 = some (nI (N 6)) := cnt_D (c := 6) ho (by decide) (hJ.1 6 (by decide)).1
    have ei : f_X6_isFull (Rep (SH T D c3 c4 m) uc vc) 1 (nI 5) = if nI (N 6) < 16 then some 0 else some 1 := by
      unfold f_X6_isFull J_X6_isFull_124
      rw [gC_1, Option.bind_some, if_neg (by decide), if_neg (by decide), if_neg (by decide), if_neg (by decide), if_pos (by decide), gR_1_2, Option.bind_some, ec, Option.bind_some]
    refine line_x (by omega) hM hMs h rfl hJ hJ2 (fun w z nn a b c => mRide_dead hMs a b c) ?_ (fun ha u1 v1 w1 z1 s1 k1 l1 x1 t1 g1 g2 => ln_ride ho hMs hM t1 g1 g2 ?_) hD
    · by_cases cl : N 6 < 16
      · refine Or.inr ⟨?_, ?_⟩
        · rw [mc]
          intro z
          have := (nI_eq (a := N 6) (b := 16) (by omega) (by omega)).mp z
          omega
        · rw [ei, if_pos (show nI (N 6) < (16 : Int32) from (show nI (N 6) < nI 16 from nI_lt cl (by omega)))]
      · refine Or.inl ⟨?_, ?_⟩
        · rw [mc, show N 6 = 16 by omega]
          rfl
        · rw [ei, if_neg (show ¬ nI (N 6) < (16 : Int32) from (show ¬ nI (N 6) < nI 16 from nI_nlt (by omega) (by omega)))]
    · by_cases cl : N 6 < 16
      · exact cl
      · exfalso
        refine ha ?_
        rw [mc, show N 6 = 16 by omega]
        rfl
theorem ls_6 (ho : okTD T D) (hMs : mSh (SH T2 D2 c3b (fR M) m2) M) (hM : 88 ≤ M) (h : TKR L uc vc um vm s 1 l x) (hJ : JS uc vc um vm D M) : LNE T D m c3 c4 T2 D2 m2 M c3b L s uc um (clI T D m c3 c4 uc vc 6) (f_X12_readRow (Rep (SH T2 D2 c3b (fR M) m2) um vm) 75 3 (M + 12)) := by
  have hD : D = 54 ∨ D = 3 := by rcases ho with ⟨rfl, rfl⟩ | ⟨rfl, rfl⟩ <;> simp
  have eF : f_X12_readRow (Rep (SH T2 D2 c3b (fR M) m2) um vm) 75 3 (M + 12) = (f_X12_begins (Rep (SH T2 D2 c3b (fR M) m2) um vm) 75 (um M 6) 16).bind (mTake (M + 12)) := by
    unfold f_X12_readRow
    rw [gC_75, Option.bind_some, gR_75_4, Option.bind_some, mI_6 hMs, Option.bind_some]
    rfl
  rw [eF]
  rcases hJ with hZ | ⟨N, hJ, hJ2⟩
  · rw [clI_z ho hZ]
    exact line_z (by omega) hM hMs h hZ (by rw [(hZ.1 6 (by decide)).2]; decide) (fun w z nn a b c => mTake_dead hMs a b c)
  · rw [clI_n ho hJ]
    have bc : N 6 ≤ 16 := (hJ.1 6 (by decide)).2.2
    have mc : um M 6 = nI (N 6) := (hJ.1 6 (by decide)).2.1
    have ec : f_X3_count (Rep (SH T D c3 c4 m) uc vc) D 6 = some (nI (N 6)) := cnt_D (c := 6) ho (by decide) (hJ.1 6 (by decide)).1
    have ei : f_X6_isFull (Rep (SH T D c3 c4 m) uc vc) 1 (nI 6) = if nI (N 6) < 16 then some 0 else some 1 := by
      unfold f_X6_isFull J_X6_isFull_124
      rw [gC_1, Option.bind_some, if_neg (by decide), if_neg (by decide), if_neg (by decide), if_neg (by decide), if_neg (by decide), if_pos (by decide), gR_1_2, Option.bind_some, ec, Option.bind_some]
    refine line_x (by omega) hM hMs h rfl hJ hJ2 (fun w z nn a b c => mTake_dead hMs a b c) ?_ (fun ha u1 v1 w1 z1 s1 k1 l1 x1 t1 g1 g2 => ln_take ho hMs hM t1 g1 g2 ?_) hD
    · by_cases cl : N 6 < 16
      · refine Or.inr ⟨?_, ?_⟩
        · rw [mc]
          intro z
          have := (nI_eq (a := N 6) (b := 16) (by omega) (by omega)).mp z
          omega
        · rw [ei, if_pos (show nI (N 6) < (16 : Int32) from (show nI (N 6) < nI 16 from nI_lt cl (by omega)))]
      · refine Or.inl ⟨?_, ?_⟩
        · rw [mc, show N 6 = 16 by omega]
          rfl
        · rw [ei, if_neg (show ¬ nI (N 6) < (16 : Int32) from (show ¬ nI (N 6) < nI 16 from nI_nlt (by omega) (by omega)))]
    · by_cases cl : N 6 < 16
      · exact cl
      · exfalso
        refine ha ?_
        rw [mc, show N 6 = 16 by omega]
        rfl
theorem ls_7 (ho : okTD T D) (hMs : mSh (SH T2 D2 c3b (fR M) m2) M) (hM : 88 ≤ M) (h : TKR L uc vc um vm s 1 l x) (hJ : JS uc vc um vm D M) : LNE T D m c3 c4 T2 D2 m2 M c3b L s uc um (clI T D m c3 c4 uc vc 7) (f_X12_readGives (Rep (SH T2 D2 c3b (fR M) m2) um vm) 75) := by
  have hD : D = 54 ∨ D = 3 := by rcases ho with ⟨rfl, rfl⟩ | ⟨rfl, rfl⟩ <;> simp
  have eF : f_X12_readGives (Rep (SH T2 D2 c3b (fR M) m2) um vm) 75 = (f_X12_begins (Rep (SH T2 D2 c3b (fR M) m2) um vm) 75 (um M 7) 12).bind (mGift) := by
    unfold f_X12_readGives
    rw [gC_75, Option.bind_some, gR_75_4, Option.bind_some, mI_7 hMs, Option.bind_some]
    rfl
  rw [eF]
  rcases hJ with hZ | ⟨N, hJ, hJ2⟩
  · rw [clI_z ho hZ]
    exact line_z (by omega) hM hMs h hZ (by rw [(hZ.1 7 (by decide)).2]; decide) (fun w z nn a b c => mGift_dead hMs a b c)
  · rw [clI_n ho hJ]
    have bc : N 7 ≤ 12 := (hJ.1 7 (by decide)).2.2
    have mc : um M 7 = nI (N 7) := (hJ.1 7 (by decide)).2.1
    have ec : f_X3_count (Rep (SH T D c3 c4 m) uc vc) D 7 = some (nI (N 7)) := cnt_D (c := 7) ho (by decide) (hJ.1 7 (by decide)).1
    have ei : f_X6_isFull (Rep (SH T D c3 c4 m) uc vc) 1 (nI 7) = if nI (N 7) < 12 then some 0 else some 1 := by
      unfold f_X6_isFull
      rw [gC_1, Option.bind_some, if_neg (by decide), if_neg (by decide), if_neg (by decide), if_neg (by decide), if_neg (by decide), if_neg (by decide), if_pos (by decide), gR_1_2, Option.bind_some, ec, Option.bind_some]
    refine line_x (by omega) hM hMs h rfl hJ hJ2 (fun w z nn a b c => mGift_dead hMs a b c) ?_ (fun ha u1 v1 w1 z1 s1 k1 l1 x1 t1 g1 g2 => ln_gift ho hMs hM t1 g1 g2 ?_) hD
    · by_cases cl : N 7 < 12
      · refine Or.inr ⟨?_, ?_⟩
        · rw [mc]
          intro z
          have := (nI_eq (a := N 7) (b := 12) (by omega) (by omega)).mp z
          omega
        · rw [ei, if_pos (show nI (N 7) < (12 : Int32) from (show nI (N 7) < nI 12 from nI_lt cl (by omega)))]
      · refine Or.inl ⟨?_, ?_⟩
        · rw [mc, show N 7 = 12 by omega]
          rfl
        · rw [ei, if_neg (show ¬ nI (N 7) < (12 : Int32) from (show ¬ nI (N 7) < nI 12 from nI_nlt (by omega) (by omega)))]
    · by_cases cl : N 7 < 12
      · exact cl
      · exfalso
        refine ha ?_
        rw [mc, show N 7 = 12 by omega]
        rfl
theorem ls_8 (ho : okTD T D) (hMs : mSh (SH T2 D2 c3b (fR M) m2) M) (hM : 88 ≤ M) (h : TKR L uc vc um vm s 1 l x) (hJ : JS uc vc um vm D M) : LNE T D m c3 c4 T2 D2 m2 M c3b L s uc um (clI T D m c3 c4 uc vc 8) (f_X12_readFound (Rep (SH T2 D2 c3b (fR M) m2) um vm) 75) := by
  have hD : D = 54 ∨ D = 3 := by rcases ho with ⟨rfl, rfl⟩ | ⟨rfl, rfl⟩ <;> simp
  have eF : f_X12_readFound (Rep (SH T2 D2 c3b (fR M) m2) um vm) 75 = (f_X12_begins (Rep (SH T2 D2 c3b (fR M) m2) um vm) 75 0 1).bind (mFnd) := by
    unfold f_X12_readFound
    rw [gC_75, Option.bind_some]
    rfl
  rw [eF]
  rcases hJ with hZ | ⟨N, hJ, hJ2⟩
  · rw [clI_z ho hZ]
    exact line_z (by omega) hM hMs h hZ (by decide) (fun w z nn a b c => mFnd_dead hMs a b c)
  · rw [clI_n ho hJ]
    refine line_x (by omega) hM hMs h rfl hJ hJ2 (fun w z nn a b c => mFnd_dead hMs a b c) (Or.inr ⟨by decide, ?_⟩) (fun ha u1 v1 w1 z1 s1 k1 l1 x1 t1 g1 g2 => ln_fnd ho hMs hM t1 g1 g2) hD
    unfold f_X6_isFull
    rw [gC_1, Option.bind_some, if_neg (by decide), if_neg (by decide), if_neg (by decide), if_neg (by decide), if_neg (by decide), if_neg (by decide), if_neg (by decide), if_pos (by decide)]
theorem ls_9 (ho : okTD T D) (hMs : mSh (SH T2 D2 c3b (fR M) m2) M) (hM : 88 ≤ M) (h : TKR L uc vc um vm s 1 l x) (hJ : JS uc vc um vm D M) : LNE T D m c3 c4 T2 D2 m2 M c3b L s uc um (clI T D m c3 c4 uc vc 9) (f_X12_readExam (Rep (SH T2 D2 c3b (fR M) m2) um vm) 75) := by
  have hD : D = 54 ∨ D = 3 := by rcases ho with ⟨rfl, rfl⟩ | ⟨rfl, rfl⟩ <;> simp
  have eF : f_X12_readExam (Rep (SH T2 D2 c3b (fR M) m2) um vm) 75 = (f_X12_begins (Rep (SH T2 D2 c3b (fR M) m2) um vm) 75 (um M 9) 8).bind (mExam) := by
    unfold f_X12_readExam
    rw [gC_75, Option.bind_some, gR_75_4, Option.bind_some, mI_9 hMs, Option.bind_some]
    rfl
  rw [eF]
  rcases hJ with hZ | ⟨N, hJ, hJ2⟩
  · rw [clI_z ho hZ]
    exact line_z (by omega) hM hMs h hZ (by rw [(hZ.1 9 (by decide)).2]; decide) (fun w z nn a b c => mExam_dead hMs a b c)
  · rw [clI_n ho hJ]
    have bc : N 9 ≤ 8 := (hJ.1 9 (by decide)).2.2
    have mc : um M 9 = nI (N 9) := (hJ.1 9 (by decide)).2.1
    have ec : f_X3_count (Rep (SH T D c3 c4 m) uc vc) D 9 = some (nI (N 9)) := cnt_D (c := 9) ho (by decide) (hJ.1 9 (by decide)).1
    have ei : f_X6_isFull (Rep (SH T D c3 c4 m) uc vc) 1 (nI 9) = if nI (N 9) < 8 then some 0 else some 1 := by
      unfold f_X6_isFull
      rw [gC_1, Option.bind_some, if_neg (by decide), if_neg (by decide), if_neg (by decide), if_neg (by decide), if_neg (by decide), if_neg (by decide), if_neg (by decide), if_neg (by decide), if_pos (by decide), gR_1_2, Option.bind_some, ec, Option.bind_some]
    refine line_x (by omega) hM hMs h rfl hJ hJ2 (fun w z nn a b c => mExam_dead hMs a b c) ?_ (fun ha u1 v1 w1 z1 s1 k1 l1 x1 t1 g1 g2 => ln_exam ho hMs hM t1 g1 g2 ?_) hD
    · by_cases cl : N 9 < 8
      · refine Or.inr ⟨?_, ?_⟩
        · rw [mc]
          intro z
          have := (nI_eq (a := N 9) (b := 8) (by omega) (by omega)).mp z
          omega
        · rw [ei, if_pos (show nI (N 9) < (8 : Int32) from (show nI (N 9) < nI 8 from nI_lt cl (by omega)))]
      · refine Or.inl ⟨?_, ?_⟩
        · rw [mc, show N 9 = 8 by omega]
          rfl
        · rw [ei, if_neg (show ¬ nI (N 9) < (8 : Int32) from (show ¬ nI (N 9) < nI 8 from nI_nlt (by omega) (by omega)))]
    · by_cases cl : N 9 < 8
      · exact cl
      · exfalso
        refine ha ?_
        rw [mc, show N 9 = 8 by omega]
        rfl
theorem ls_0 (ho : okTD T D) (hMs : mSh (SH T2 D2 c3b (fR M) m2) M) (hM : 88 ≤ M) (h : TKR L uc vc um vm s 1 l x) (hJ : JS uc vc um vm D M) : LNE T D m c3 c4 T2 D2 m2 M c3b L s uc um (clI T D m c3 c4 uc vc 0) (f_X12_readCollege (Rep (SH T2 D2 c3b (fR M) m2) um vm) 75) := by
  have hD : D = 54 ∨ D = 3 := by rcases ho with ⟨rfl, rfl⟩ | ⟨rfl, rfl⟩ <;> simp
  have e15 : ∀ g, J_X12_readCollege_15 75 g = (f_X12_goesOn g 75).bind mColl := fun g => rfl
  rcases hJ with hZ | ⟨N, hJ, hJ2⟩
  · rw [clI_z ho hZ]
    obtain ⟨uc', vc', um', vm', s', k', l', x', q1, q2, q3, q4, q5, q6, q7, q8, q9, q10⟩ := adv (T := T) (D := D) (c3 := c3) (c4 := c4) (m := m) (T2 := T2) (D2 := D2) (c3b := c3b) (M := M) (m2 := m2) (y := 0) h (Or.inl rfl)
    have hZ' : JZ uc' um' D M := by
      obtain ⟨z0, z5, z10, z16, z18⟩ := hZ
      unfold JZ
      rw [cfT_q q7 (show D + 20 ≠ 1 by omega), cfT_q q7 (show D + 16 ≠ 1 by omega), cfT_q q7 (show D + 18 ≠ 1 by omega), cfT_5 q7, mfT_q q9 (show M ≠ 75 by omega)]
      exact ⟨z0, z5, z10, z16, z18⟩
    have e := LNE_lift (rdC_T q7) (rdM_T q9) (cfT_13 q7) (mfT_12 q9) q4 (ln_coll (T := T) (D := D) (m := m) (c3 := c3) (c4 := c4) ho hMs hM q3 hZ')
    have eB : f_X12_readCollege (Rep (SH T2 D2 c3b (fR M) m2) um vm) 75 = mColl (Rep (SH T2 D2 c3b (fR M) m2) um' vm') := by
      unfold f_X12_readCollege
      rw [gC_75, Option.bind_some, gR_75_4, Option.bind_some, mI_0 hMs, Option.bind_some, (hZ.1 0 (by decide)).2, if_pos (by decide), e15, q2, Option.bind_some]
    have eX : ∀ Z, f_X6_readCollege (Rep (SH T D c3 c4 m) uc' vc') 1 = Z → J_X6_readLine_37 1 (nI 0) 0 (Rep (SH T D c3 c4 m) uc vc) = (q_b2 Z fun v5 g4 => if v5 = 0 then (some (0, g4)) else (some (1, g4))) := by
      intro Z hZ
      unfold J_X6_readLine_37
      rw [if_pos nI_0, if_pos rfl, q1, q_b2_some, if_neg (by decide), hZ]
    rw [eB]
    rcases e with ⟨u2, v2, w2, z2, e1, e2, e3, e4, e5⟩ | ⟨u2, v2, w2, z2, e1, e2, e3, e4, e5⟩
    · exact Or.inl ⟨u2, v2, w2, z2, by rw [eX _ e1, q_b2_some, if_neg (by decide)], e2, e3, e4, e5⟩
    · exact Or.inr ⟨u2, v2, w2, z2, by rw [eX _ e1, q_b2_some, if_pos rfl], e2, e3, e4, e5⟩
  · rw [clI_n ho hJ]
    have h2 : 2 ≤ N 0 := hJ.2.2.2.2.2.2.2.2.2.2
    have b0 : N 0 ≤ 7 := (hJ.1 0 (by decide)).2.2
    obtain ⟨d1, d2, d3, d4, d5⟩ := flaw_DD (T2 := T2) (D2 := D2) (m2 := m2) (c3b := c3b) (c4 := fR M) (D := D) (n := 3) h (by omega)
    have d1' : f_X12_flaw (Rep (SH T2 D2 c3b (fR M) m2) um vm) 75 3 = _ := d1
    refine Or.inr ⟨_, vc, _, vm, ?_, ?_, d3, rdM_F d4, d2⟩
    · unfold J_X6_readLine_37
      rw [if_pos nI_0, if_neg (by decide), gI_1_8, Option.bind_some, d5, cls_fail, q_b2_some, zr0]
      rfl
    · unfold f_X12_readCollege
      rw [gC_75, Option.bind_some, gR_75_4, Option.bind_some, mI_0 hMs, Option.bind_some, (hJ.1 0 (by decide)).2.1, if_neg (nI_nle (by omega) (by omega)), d1', Option.bind_some, e15, goes_dead (wr_same _ _ _ _), Option.bind_some, mColl_dead (wr_same _ _ _ _)]
theorem rd_line (ho : okTD T D) (hMs : mSh (SH T2 D2 c3b (fR M) m2) M) (hM : 88 ≤ M) (h : TKR L uc vc um vm s k l x) (hJ : JS uc vc um vm D M) : LNE T D m c3 c4 T2 D2 m2 M c3b L s uc um (f_X6_readLine (Rep (SH T D c3 c4 m) uc vc) 1) (f_X12_readLine (Rep (SH T2 D2 c3b (fR M) m2) um vm) 75) := by
  obtain ⟨d1, d2, d3, d4, d5⟩ := flaw_DD (T2 := T2) (D2 := D2) (m2 := m2) (c3b := c3b) (c4 := fR M) (D := D) (n := 1) h (by omega)
  have d1' : f_X12_flaw (Rep (SH T2 D2 c3b (fR M) m2) um vm) 75 1 = _ := d1
  by_cases ck : k = 1
  · subst ck
    have hl := (h.2.2.2.2.2.2.1 rfl).1
    have hC : uc 1 7 = nI 1 ∧ vc 1 10 = rv 27 l := by
      obtain ⟨-, -, -, -, -, -, -, -, e, -, -, -, hC, -⟩ := h
      exact ⟨hC.1, hC.2.2.2.1 rfl⟩
    have els := line_sort (T := T) (D := D) (c3 := c3) (c4 := c4) (m := m) (u := uc) (v := vc) hC.1 hC.2 hl
    have w0 : f_X12_isWord (Rep (SH T2 D2 c3b (fR M) m2) um vm) 75 29 = _ := mod_word (w := 0) (by decide) (by decide) h
    have w1 : f_X12_isWord (Rep (SH T2 D2 c3b (fR M) m2) um vm) 75 32 = _ := mod_word (w := 1) (by decide) (by decide) h
    have w2 : f_X12_isWord (Rep (SH T2 D2 c3b (fR M) m2) um vm) 75 33 = _ := mod_word (w := 2) (by decide) (by decide) h
    have w3 : f_X12_isWord (Rep (SH T2 D2 c3b (fR M) m2) um vm) 75 34 = _ := mod_word (w := 3) (by decide) (by decide) h
    have w4 : f_X12_isWord (Rep (SH T2 D2 c3b (fR M) m2) um vm) 75 35 = _ := mod_word (w := 4) (by decide) (by decide) h
    have w5 : f_X12_isWord (Rep (SH T2 D2 c3b (fR M) m2) um vm) 75 36 = _ := mod_word (w := 5) (by decide) (by decide) h
    have w6 : f_X12_isWord (Rep (SH T2 D2 c3b (fR M) m2) um vm) 75 37 = _ := mod_word (w := 6) (by decide) (by decide) h
    have w7 : f_X12_isWord (Rep (SH T2 D2 c3b (fR M) m2) um vm) 75 38 = _ := mod_word (w := 7) (by decide) (by decide) h
    have w8 : f_X12_isWord (Rep (SH T2 D2 c3b (fR M) m2) um vm) 75 39 = _ := mod_word (w := 8) (by decide) (by decide) h
    have w9 : f_X12_isWord (Rep (SH T2 D2 c3b (fR M) m2) um vm) 75 40 = _ := mod_word (w := 9) (by decide) (by decide) h
    have cx : ∀ i, i < 10 → lnS l 10 0 = i → f_X6_readLine (Rep (SH T D c3 c4 m) uc vc) 1 = clI T D m c3 c4 uc vc i := by
      intro i hi e
      have n10 : ¬ nI i = 10 := fun z => by have := (nI_eq (a := i) (b := 10) (by omega) (by omega)).mp z; omega
      unfold f_X6_readLine clI
      rw [gC_1, Option.bind_some, els, e, Option.bind_some, if_neg n10, gR_1_2, Option.bind_some]
    have t : bI true = 1 := rfl
    have f : bI false = 0 := rfl
    unfold f_X12_readLine
    rw [gC_75, Option.bind_some, w0, Option.bind_some, w1, Option.bind_some, w2, Option.bind_some, w3, Option.bind_some, w4, Option.bind_some, w5, Option.bind_some, w6, Option.bind_some, w7, Option.bind_some, w8, Option.bind_some, w9, Option.bind_some]
    by_cases g0 : l = wd 0
    · have e : lnS l 10 0 = 0 := by
        simp -implicitDefEqProofs only [lnS]
        rw [if_pos g0]
      rw [cx 0 (by decide) e, decide_eq_true g0, t, if_neg (by decide), bnd_id]
      exact ls_0 ho hMs hM h hJ
    rw [decide_eq_false g0, f, if_pos rfl]
    by_cases g1 : l = wd 1
    · have e : lnS l 10 0 = 1 := by
        simp -implicitDefEqProofs only [lnS]
        rw [if_neg g0, if_pos g1]
      rw [cx 1 (by decide) e, decide_eq_true g1, t, if_neg (by decide), bnd_id]
      exact ls_1 ho hMs hM h hJ
    rw [decide_eq_false g1, f, if_pos rfl]
    by_cases g2 : l = wd 2
    · have e : lnS l 10 0 = 2 := by
        simp -implicitDefEqProofs only [lnS]
        rw [if_neg g0, if_neg g1, if_pos g2]
      rw [cx 2 (by decide) e, decide_eq_true g2, t, if_neg (by decide), bnd_id]
      exact ls_2 ho hMs hM h hJ
    rw [decide_eq_false g2, f, if_pos rfl]
    by_cases g3 : l = wd 3
    · have e : lnS l 10 0 = 3 := by
        simp -implicitDefEqProofs only [lnS]
        rw [if_neg g0, if_neg g1, if_neg g2, if_pos g3]
      rw [cx 3 (by decide) e, decide_eq_true g3, t, if_neg (by decide), bnd_id]
      exact ls_3 ho hMs hM h hJ
    rw [decide_eq_false g3, f, if_pos rfl]
    by_cases g4 : l = wd 4
    · have e : lnS l 10 0 = 4 := by
        simp -implicitDefEqProofs only [lnS]
        rw [if_neg g0, if_neg g1, if_neg g2, if_neg g3, if_pos g4]
      rw [cx 4 (by decide) e, decide_eq_true g4, t, if_neg (by decide), bnd_id]
      exact ls_4 ho hMs hM h hJ
    rw [decide_eq_false g4, f, if_pos rfl]
    by_cases g5 : l = wd 5
    · have e : lnS l 10 0 = 5 := by
        simp -implicitDefEqProofs only [lnS]
        rw [if_neg g0, if_neg g1, if_neg g2, if_neg g3, if_neg g4, if_pos g5]
      rw [cx 5 (by decide) e, decide_eq_true g5, t, if_neg (by decide), gR_75_4, Option.bind_some, mR_18 hMs, Option.bind_some, bnd_id]
      exact ls_5 ho hMs hM h hJ
    rw [decide_eq_false g5, f, if_pos rfl]
    by_cases g6 : l = wd 6
    · have e : lnS l 10 0 = 6 := by
        simp -implicitDefEqProofs only [lnS]
        rw [if_neg g0, if_neg g1, if_neg g2, if_neg g3, if_neg g4, if_neg g5, if_pos g6]
      rw [cx 6 (by decide) e, decide_eq_true g6, t, if_neg (by decide), gR_75_4, Option.bind_some, mR_22 hMs, Option.bind_some, bnd_id]
      exact ls_6 ho hMs hM h hJ
    rw [decide_eq_false g6, f, if_pos rfl]
    by_cases g7 : l = wd 7
    · have e : lnS l 10 0 = 7 := by
        simp -implicitDefEqProofs only [lnS]
        rw [if_neg g0, if_neg g1, if_neg g2, if_neg g3, if_neg g4, if_neg g5, if_neg g6, if_pos g7]
      rw [cx 7 (by decide) e, decide_eq_true g7, t, if_neg (by decide), bnd_id]
      exact ls_7 ho hMs hM h hJ
    rw [decide_eq_false g7, f, if_pos rfl]
    by_cases g8 : l = wd 8
    · have e : lnS l 10 0 = 8 := by
        simp -implicitDefEqProofs only [lnS]
        rw [if_neg g0, if_neg g1, if_neg g2, if_neg g3, if_neg g4, if_neg g5, if_neg g6, if_neg g7, if_pos g8]
      rw [cx 8 (by decide) e, decide_eq_true g8, t, if_neg (by decide), bnd_id]
      exact ls_8 ho hMs hM h hJ
    rw [decide_eq_false g8, f, if_pos rfl]
    by_cases g9 : l = wd 9
    · have e : lnS l 10 0 = 9 := by
        simp -implicitDefEqProofs only [lnS]
        rw [if_neg g0, if_neg g1, if_neg g2, if_neg g3, if_neg g4, if_neg g5, if_neg g6, if_neg g7, if_neg g8, if_pos g9]
      rw [cx 9 (by decide) e, decide_eq_true g9, t, if_neg (by decide), bnd_id]
      exact ls_9 ho hMs hM h hJ
    rw [decide_eq_false g9, f, if_pos rfl]
    have e : lnS l 10 0 = 10 := by
      simp -implicitDefEqProofs only [lnS]
      rw [if_neg g0, if_neg g1, if_neg g2, if_neg g3, if_neg g4, if_neg g5, if_neg g6, if_neg g7, if_neg g8, if_neg g9]
    refine Or.inr ⟨_, vc, _, vm, ?_, ?_, d3, rdM_F d4, d2⟩
    · unfold f_X6_readLine
      rw [gC_1, Option.bind_some, els, e, Option.bind_some, if_pos (by decide), gI_1_8, Option.bind_some, d5, cls_fail, q_b2_some, zr0]
      rfl
    · rw [d1', Option.bind_some]
  · have hC : uc 1 7 = nI k ∧ k < 5 := by
      obtain ⟨-, -, -, -, -, hk5, -, -, e, -, -, -, hC, -⟩ := h
      exact ⟨hC.1, hk5⟩
    refine Or.inr ⟨_, vc, _, vm, ?_, ?_, d3, rdM_F d4, d2⟩
    · unfold f_X6_readLine
      rw [gC_1, Option.bind_some, line_none hC.1 hC.2 ck, Option.bind_some, if_pos rfl, gI_1_8, Option.bind_some, d5, cls_fail, q_b2_some, zr0]
      rfl
    · unfold f_X12_readLine
      rw [gC_75, Option.bind_some, mod_wordN ck h, Option.bind_some, if_pos rfl, mod_wordN ck h, Option.bind_some, if_pos rfl, mod_wordN ck h, Option.bind_some, if_pos rfl, mod_wordN ck h, Option.bind_some, if_pos rfl, mod_wordN ck h, Option.bind_some, if_pos rfl, mod_wordN ck h, Option.bind_some, if_pos rfl, mod_wordN ck h, Option.bind_some, if_pos rfl, mod_wordN ck h, Option.bind_some, if_pos rfl, mod_wordN ck h, Option.bind_some, if_pos rfl, mod_wordN ck h, Option.bind_some, if_pos rfl, d1', Option.bind_some]
end RL2
