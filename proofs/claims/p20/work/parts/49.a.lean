/-! all calls, and the start -/
theorem zsteps2 : zSteps zRel2 := by
  refine ⟨fun n C M h hn => zst_wt n C M h.1 hn, fun n C M h => ⟨zst_skip n C M h.1, h.2⟩, fun n C M h hn => ?_, fun n C M h hn => ?_, fun n C M h hn a1 a2 a3 b1 b2 b3 => ?_, fun n C M h hn a1 a2 a3 a4 b1 b2 b3 b4 => ?_, fun n C M h hn a1 b1 => ?_, fun n C M h hn a1 a2 b1 b2 => ?_, fun n C M h hn a1 a2 b1 b2 => ?_, fun n C M h hn a1 a2 b1 b2 => ?_, fun n C M h hn a1 a2 b1 b2 => ?_, zst_come2, fun n C M h hn a1 a2 b1 b2 => ?_, fun n C M h hn a1 a2 b1 b2 => ?_, fun n C M h hn a1 b1 => ?_, fun n C M h hn a1 b1 => ?_, fun n C M h hn a1 a2 a3 b1 b2 b3 => ?_, fun n C M h hn a1 b1 => ?_, fun n C M h hn a1 b1 => ?_⟩
  · obtain ⟨t1, t2⟩ := zst_mean n C M h.1 hn
    exact ⟨t1, t2, h.2.of (by rw [zup_fr (by decide)])⟩
  · obtain ⟨t1, t2, t3⟩ := zst_digest n C M h.1 hn
    exact ⟨t1, t2, t3, h.2.of (by rw [zup_fr (by decide)])⟩
  · obtain ⟨t1, t2, t3⟩ := zst_build n C M h.1 hn a1 a2 a3 b1 b2 b3
    refine ⟨t1, t2, t3, h.2.of ?_⟩
    unfold buildM
    split
    · rw [zup_fr (by decide), zup_fr (by decide), zup_fr (by decide), zup_fr (by decide), zup_fr (by decide)]
    · rw [thM_18]
  · obtain ⟨t1, t2, t3⟩ := zst_span n C M h.1 hn a1 a2 a3 a4 b1 b2 b3 b4
    refine ⟨t1, t2, t3, h.2.of ?_⟩
    unfold spanM
    split
    · rw [zup_fr (by decide), zup_fr (by decide), zup_fr (by decide), zup_fr (by decide), zup_fr (by decide), zup_fr (by decide)]
    · rw [thM_18]
  · obtain ⟨t1, t2, t3⟩ := zst_add n C M h.1 hn a1 b1
    refine ⟨t1, t2, t3, h.2.of ?_⟩
    unfold addM
    split
    · rw [zup_fr (by decide), zup_fr (by decide)]
    · rw [thM_18]
  · obtain ⟨t1, t2, t3⟩ := zst_setWind n C M h.1 hn a1 a2 b1 b2
    refine ⟨t1, t2, t3, h.2.of ?_⟩
    unfold windM
    split
    · rw [zup_fr (by decide), zup_fr (by decide)]
    · rw [thM_18]
  · obtain ⟨t1, t2, t3⟩ := zst_platform n C M h.1 hn a1 a2 b1 b2
    exact ⟨t1, t2, t3, h.2.of (congrFun (face_18 M (kPlatM M a1 a2)) 0)⟩
  · obtain ⟨t1, t2, t3⟩ := zst_line n C M h.1 hn a1 a2 b1 b2
    exact ⟨t1, t2, t3, h.2.of (congrFun (face_18 M (kLineM M a1 a2)) 0)⟩
  · obtain ⟨t1, t2, t3⟩ := zst_ride n C M h.1 hn a1 a2 b1 b2
    exact ⟨t1, t2, t3, h.2.of (congrFun (face_18 M (kRideM M a1 a2)) 0)⟩
  · obtain ⟨t1, t2, t3, t4⟩ := zst_rider n C M h.1 hn a1 a2 b1 b2
    exact ⟨t1, t2, t3, t4, h.2.of (congrFun (face_18 M (kRiderM M a1 a2)) 0)⟩
  · obtain ⟨t1, t2, t3⟩ := zst_queue n C M h.1 hn a1 a2 b1 b2
    exact ⟨t1, t2, t3, h.2.of (congrFun (face_18 M (kQueueM M a1 a2)) 0)⟩
  · obtain ⟨t1, t2, t3, t4⟩ := zst_pass n C M h.1 hn a1 b1
    refine ⟨t1, t2, t3, t4, ?_⟩
    unfold passFM
    split
    · rename_i q
      have h9 : 1 ≤ a1 ∧ a1 ≤ 100 := by
        unfold kPassM at q
        split at q
        · assumption
        · exact absurd q (by decide)
      intro k hk
      have hwM := (h.1.Z hn).2.2.2.1
      rw [passMN_18 hwM a1.toNat (by omega) (by omega) (fun j hj => t1 j (by omega) h9.2) hk, zup_fr (by decide)]
      exact h.2 k hk
    · exact h.2.of (by rw [thM_18])
  · obtain ⟨t1, t2, t3⟩ := zst_count n C M h.1 hn a1 b1
    exact ⟨t1, t2, t3, h.2.of (congrFun (face_18 M (kCountM a1)) 0)⟩
  · obtain ⟨t1, t2, t3⟩ := zst_way n C M h.1 hn a1 a2 a3 b1 b2 b3
    exact ⟨t1, t2, t3, h.2.of (congrFun (face_18 M (kWayM M a1 a2 a3)) 0)⟩
  · obtain ⟨t1, t2, t3, t4⟩ := zst_arrives n C M h.1 hn a1 b1
    refine ⟨t1, t2, t3, t4, ?_⟩
    unfold arrFM
    split
    · exact h.2.of (by rw [arrMN_off (by decide), aheadM, becomeM_off (by decide), zup_fr (by decide)])
    · exact h.2.of (by rw [thM_18])
  · obtain ⟨t1, t2, t3, t4⟩ := zst_advise n C M h.1 hn a1 b1
    refine ⟨t1, t2, t3, t4, ?_⟩
    unfold advFM
    split
    · exact h.2.of (by rw [advMN_off (by decide), aheadM, becomeM_off (by decide), zup_fr (by decide)])
    · exact h.2.of (by rw [thM_18])
theorem m0c {f i k : Nat} (h : f ≠ 16) : M0C f i k = 0 := by
  unfold M0C
  rw [if_neg (fun z => h z.1)]
theorem m0c16 (i k : Nat) : M0C 16 i k = if k = 5 then -1 else 0 := by
  unfold M0C
  simp
theorem WTC0 : WTC 0 0 M0C := by
  refine ⟨fun f i k => ?_, fun i => by rw [m0c (by decide), m0c (by decide)]; decide, by decide, by decide⟩
  unfold inC
  split <;> first | exact trivial | (rw [m0c (by decide)]; decide) | (rw [m0c16]; decide)
theorem WTM0 : WTM 0 0 M0M := by
  refine ⟨fun f i k => ?_, fun l hl => ?_, by decide, by decide⟩
  · show inM 0 0 f k 0
    unfold inM
    split <;> first | exact trivial | decide
  · have h9 : (l : Int) < 0 := hl
    omega
theorem start2 : zRel2 0 M0C M0M := by
  refine ⟨⟨fun _ => ⟨?_, ?_⟩, ?_, ?_, ?_⟩, fun k _ => ?_⟩
  · have e : (400 * ((0 : Nat) : Int)) = 0 := rfl
    have e2 : (20000 * ((0 : Nat) : Int)) = 0 := rfl
    rw [e, e2]
    exact WTC0
  · have e : (400 * ((0 : Nat) : Int)) = 0 := rfl
    have e2 : (20000 * ((0 : Nat) : Int)) = 0 := rfl
    rw [e, e2]
    exact WTM0
  · refine ⟨⟨?_, ?_, ?_⟩, fun i => ⟨?_, ?_, ?_⟩, fun i => ⟨?_, ?_, ?_⟩, fun l hl => ?_, fun r => ⟨?_, ?_, ?_⟩, fun r hr => ?_, fun k => ?_, fun r q hr hq => ?_, fun p q hp hq hpq => ?_⟩
    any_goals exact m0c (by decide)
    · have h9 : (l : Int) < 0 := hl
      omega
    · have h9 : (r : Int) < 0 := hr
      omega
    · have h9 : (r : Int) < 0 := hr
      omega
    · have h9 : (p : Int) < 0 := hp
      omega
  · refine ⟨[], fun _ => [], ⟨?_, fun l hl => ?_, fun r hr => ?_, ⟨?_, fun k r hk => ?_, ?_, fun r => ?_, fun p hp => ?_⟩, ⟨fun l hl => ?_, fun l hl => ?_, fun r hr => ?_⟩⟩, fun l hl => ?_⟩
    · exact m0c (by decide)
    · have h9 : (l : Int) < 0 := hl
      omega
    · have h9 : (r : Int) < 0 := hr
      omega
    · rw [m0c (by decide)]; rfl
    · simp at hk
    · exact List.nodup_nil
    · refine ⟨fun z => by simp at z, fun z => ?_⟩
      have h9 : (r : Int) < 0 := z.1
      omega
    · exact ⟨rfl, fun k r hk => by simp [Wp] at hk⟩
    · have h9 : (l : Int) < 0 := hl
      omega
    · have h9 : (l : Int) < 0 := hl
      omega
    · have h9 : (r : Int) < 0 := hr
      omega
    · have h9 : (l : Int) < 0 := hl
      omega
  · refine ⟨fun l _ _ => ⟨m0c (by decide), m0c (by decide), m0c (by decide), m0c (by decide), rfl, rfl, rfl, rfl⟩, fun r _ _ => ⟨?_, ?_, rfl⟩⟩
    · rw [m0c16]; rfl
    · rw [m0c16]; rfl
  · show (0 : Int) ≤ 11
    decide
