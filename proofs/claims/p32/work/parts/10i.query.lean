/-! What is told, question by question. -/
theorem q_count0 (μ : ed_CM) : f_X8_count 0 μ = some (μ 0 0 0 0) := by
  unfold f_X8_count
  rw [if_pos rfl]
theorem q_count1 (μ : ed_CM) : f_X8_count 1 μ = some (μ 0 0 0 4) := by
  unfold f_X8_count
  rw [if_neg (by decide), if_pos rfl]
theorem q_count2 (μ : ed_CM) : f_X8_count 2 μ = some (μ 0 0 0 3) := by
  unfold f_X8_count
  rw [if_neg (by decide), if_neg (by decide), if_pos rfl]
theorem q_count3 (μ : ed_CM) : f_X8_count 3 μ = some (μ 0 0 0 5) := by
  unfold f_X8_count
  rw [if_neg (by decide), if_neg (by decide), if_neg (by decide), if_pos rfl]
theorem q_count12 (μ : ed_CM) : f_X8_count 12 μ = some (μ 0 0 0 1) := by
  unfold f_X8_count
  rw [if_neg (by decide), if_neg (by decide), if_neg (by decide), if_neg (by decide), if_neg (by decide), if_neg (by decide), if_neg (by decide), if_neg (by decide), if_neg (by decide), if_neg (by decide), if_neg (by decide), if_neg (by decide), if_pos rfl]
theorem pr_bi (x : Option Int32) : ed_b x (fun r => some r) = x := by
  cases x <;> rfl
theorem q_count9 (μ : ed_CM) : f_X8_count 9 μ = f_X5_copiesWithCorrectionsDue (μ 0) := by
  unfold f_X8_count
  rw [if_neg (by decide), if_neg (by decide), if_neg (by decide), if_neg (by decide), if_neg (by decide), if_neg (by decide), if_neg (by decide), if_neg (by decide), if_neg (by decide), if_pos rfl, pr_bi]
theorem q_countS0 (μ : ed_CM) : f_X8_count (4 + nI 0) μ = f_X5_copiesOf (-1) (-1) (nI 0) (μ 0) := by
  rw [show (4 : Int32) + nI 0 = 4 by decide]
  unfold f_X8_count
  rw [if_neg (by decide), if_neg (by decide), if_neg (by decide), if_neg (by decide), if_pos rfl, pr_bi]
  rfl
theorem q_countS1 (μ : ed_CM) : f_X8_count (4 + nI 1) μ = f_X5_copiesOf (-1) (-1) (nI 1) (μ 0) := by
  rw [show (4 : Int32) + nI 1 = 5 by decide]
  unfold f_X8_count
  rw [if_neg (by decide), if_neg (by decide), if_neg (by decide), if_neg (by decide), if_neg (by decide), if_pos rfl, pr_bi]
  rfl
theorem q_countS2 (μ : ed_CM) : f_X8_count (4 + nI 2) μ = f_X5_copiesOf (-1) (-1) (nI 2) (μ 0) := by
  rw [show (4 : Int32) + nI 2 = 6 by decide]
  unfold f_X8_count
  rw [if_neg (by decide), if_neg (by decide), if_neg (by decide), if_neg (by decide), if_neg (by decide), if_neg (by decide), if_pos rfl, pr_bi]
  rfl
theorem q_countS3 (μ : ed_CM) : f_X8_count (4 + nI 3) μ = f_X5_copiesOf (-1) (-1) (nI 3) (μ 0) := by
  rw [show (4 : Int32) + nI 3 = 7 by decide]
  unfold f_X8_count
  rw [if_neg (by decide), if_neg (by decide), if_neg (by decide), if_neg (by decide), if_neg (by decide), if_neg (by decide), if_neg (by decide), if_pos rfl, pr_bi]
  rfl
theorem q_countS4 (μ : ed_CM) : f_X8_count (4 + nI 4) μ = f_X5_copiesOf (-1) (-1) (nI 4) (μ 0) := by
  rw [show (4 : Int32) + nI 4 = 8 by decide]
  unfold f_X8_count
  rw [if_neg (by decide), if_neg (by decide), if_neg (by decide), if_neg (by decide), if_neg (by decide), if_neg (by decide), if_neg (by decide), if_neg (by decide), if_pos rfl, pr_bi]
  rfl
theorem q_count5 (μ : ed_CM) : f_X8_count 5 μ = f_X5_copiesOf (-1) (-1) 1 (μ 0) := q_countS1 μ
theorem q_story0 {μ : ed_CM} {nS s : Nat} (a3 : μ 0 0 0 3 = nI nS) (a7 : nS ≤ 20) (hs : s < nS) : f_X8_story (nI s) 0 μ = some (μ 0 7 s 0) := by
  unfold f_X8_story
  rw [pr_storyAt a3 a7 hs, pr_b]
  show ed_g (s < 20) _ = _
  rw [pr_g (by omega)]
  rw [if_pos rfl]
theorem q_story1 {μ : ed_CM} {nS s : Nat} (a3 : μ 0 0 0 3 = nI nS) (a7 : nS ≤ 20) (hs : s < nS) : f_X8_story (nI s) 1 μ = some (μ 0 7 s 1) := by
  unfold f_X8_story
  rw [pr_storyAt a3 a7 hs, pr_b]
  show ed_g (s < 20) _ = _
  rw [pr_g (by omega)]
  rw [if_neg (by decide), if_pos rfl]
theorem q_story2 {μ : ed_CM} {nS s : Nat} (a3 : μ 0 0 0 3 = nI nS) (a7 : nS ≤ 20) (hs : s < nS) : f_X8_story (nI s) 2 μ = some (μ 0 7 s 3) := by
  unfold f_X8_story
  rw [pr_storyAt a3 a7 hs, pr_b]
  show ed_g (s < 20) _ = _
  rw [pr_g (by omega)]
  rw [if_neg (by decide), if_neg (by decide), if_pos rfl]
theorem q_story3 {μ : ed_CM} {nS s : Nat} (a3 : μ 0 0 0 3 = nI nS) (a7 : nS ≤ 20) (hs : s < nS) : f_X8_story (nI s) 3 μ = some (μ 0 7 s 6) := by
  unfold f_X8_story
  rw [pr_storyAt a3 a7 hs, pr_b]
  show ed_g (s < 20) _ = _
  rw [pr_g (by omega)]
  rw [if_neg (by decide), if_neg (by decide), if_neg (by decide), if_pos rfl]
theorem q_story4 {μ : ed_CM} {nS s : Nat} (a3 : μ 0 0 0 3 = nI nS) (a7 : nS ≤ 20) (hs : s < nS) : f_X8_story (nI s) 4 μ = some (μ 0 7 s 7) := by
  unfold f_X8_story
  rw [pr_storyAt a3 a7 hs, pr_b]
  show ed_g (s < 20) _ = _
  rw [pr_g (by omega)]
  rw [if_neg (by decide), if_neg (by decide), if_neg (by decide), if_neg (by decide), if_pos rfl]
theorem q_story5 {μ : ed_CM} {nS s : Nat} (a3 : μ 0 0 0 3 = nI nS) (a7 : nS ≤ 20) (hs : s < nS) : f_X8_story (nI s) 5 μ = some (μ 0 7 s 9) := by
  unfold f_X8_story
  rw [pr_storyAt a3 a7 hs, pr_b]
  show ed_g (s < 20) _ = _
  rw [pr_g (by omega)]
  rw [if_neg (by decide), if_neg (by decide), if_neg (by decide), if_neg (by decide), if_neg (by decide), if_pos rfl]
theorem q_story6 {μ : ed_CM} {nS s : Nat} (a3 : μ 0 0 0 3 = nI nS) (a7 : nS ≤ 20) (hs : s < nS) : f_X8_story (nI s) 6 μ = some (μ 0 7 s 10) := by
  unfold f_X8_story
  rw [pr_storyAt a3 a7 hs, pr_b]
  show ed_g (s < 20) _ = _
  rw [pr_g (by omega)]
  rw [if_neg (by decide), if_neg (by decide), if_neg (by decide), if_neg (by decide), if_neg (by decide), if_neg (by decide), if_pos rfl]
theorem q_story8 {μ : ed_CM} {nS s : Nat} (a3 : μ 0 0 0 3 = nI nS) (a7 : nS ≤ 20) (hs : s < nS) : f_X8_story (nI s) 8 μ = f_X5_copiesOf (nI s) (-1) (-1) (μ 0) := by
  unfold f_X8_story
  rw [pr_storyAt a3 a7 hs, pr_b]
  show ed_g (s < 20) _ = _
  rw [pr_g (by omega)]
  rw [if_neg (by decide), if_neg (by decide), if_neg (by decide), if_neg (by decide), if_neg (by decide), if_neg (by decide), if_neg (by decide), if_neg (by decide), if_pos rfl, pr_bi]
theorem q_story9 {μ : ed_CM} {nS s : Nat} (a3 : μ 0 0 0 3 = nI nS) (a7 : nS ≤ 20) (hs : s < nS) : f_X8_story (nI s) 9 μ = f_X5_copiesOf (nI s) (-1) 1 (μ 0) := by
  unfold f_X8_story
  rw [pr_storyAt a3 a7 hs, pr_b]
  show ed_g (s < 20) _ = _
  rw [pr_g (by omega)]
  rw [if_neg (by decide), if_neg (by decide), if_neg (by decide), if_neg (by decide), if_neg (by decide), if_neg (by decide), if_neg (by decide), if_neg (by decide), if_neg (by decide), if_pos rfl, pr_bi]
theorem q_story10 {μ : ed_CM} {nS s : Nat} (a3 : μ 0 0 0 3 = nI nS) (a7 : nS ≤ 20) (hs : s < nS) : f_X8_story (nI s) 10 μ = f_X5_upToDateCopies (nI s) (μ 0) := by
  unfold f_X8_story
  rw [pr_storyAt a3 a7 hs, pr_b]
  show ed_g (s < 20) _ = _
  rw [pr_g (by omega)]
  rw [if_neg (by decide), if_neg (by decide), if_neg (by decide), if_neg (by decide), if_neg (by decide), if_neg (by decide), if_neg (by decide), if_neg (by decide), if_neg (by decide), if_neg (by decide), if_pos rfl, pr_bi]
theorem q_client1 {μ : ed_CM} {nC c : Nat} (a4 : μ 0 0 0 4 = nI nC) (a6 : nC ≤ 8) (hc : c < nC) : f_X8_client (nI c) 1 μ = some (μ 0 11 c 1) := by
  unfold f_X8_client
  rw [pr_clientAt a4 a6 hc, pr_b]
  show ed_g (c < 8) _ = _
  rw [pr_g (by omega)]
  rw [if_neg (by decide), if_pos rfl]
theorem q_client2 {μ : ed_CM} {nC c : Nat} (a4 : μ 0 0 0 4 = nI nC) (a6 : nC ≤ 8) (hc : c < nC) : f_X8_client (nI c) 2 μ = some (μ 0 11 c 2) := by
  unfold f_X8_client
  rw [pr_clientAt a4 a6 hc, pr_b]
  show ed_g (c < 8) _ = _
  rw [pr_g (by omega)]
  rw [if_neg (by decide), if_neg (by decide), if_pos rfl]
theorem q_client3 {μ : ed_CM} {nC c : Nat} (a4 : μ 0 0 0 4 = nI nC) (a6 : nC ≤ 8) (hc : c < nC) : f_X8_client (nI c) 3 μ = some (μ 0 11 c 3) := by
  unfold f_X8_client
  rw [pr_clientAt a4 a6 hc, pr_b]
  show ed_g (c < 8) _ = _
  rw [pr_g (by omega)]
  rw [if_neg (by decide), if_neg (by decide), if_neg (by decide), if_pos rfl]
theorem q_client6 {μ : ed_CM} {nC c : Nat} (a4 : μ 0 0 0 4 = nI nC) (a6 : nC ≤ 8) (hc : c < nC) : f_X8_client (nI c) 6 μ = some (μ 0 11 c 6) := by
  unfold f_X8_client
  rw [pr_clientAt a4 a6 hc, pr_b]
  show ed_g (c < 8) _ = _
  rw [pr_g (by omega)]
  rw [if_neg (by decide), if_neg (by decide), if_neg (by decide), if_neg (by decide), if_neg (by decide), if_neg (by decide), if_pos rfl]
theorem q_client7 {μ : ed_CM} {nC c : Nat} (a4 : μ 0 0 0 4 = nI nC) (a6 : nC ≤ 8) (hc : c < nC) : f_X8_client (nI c) 7 μ = some (μ 0 11 c 7) := by
  unfold f_X8_client
  rw [pr_clientAt a4 a6 hc, pr_b]
  show ed_g (c < 8) _ = _
  rw [pr_g (by omega)]
  rw [if_neg (by decide), if_neg (by decide), if_neg (by decide), if_neg (by decide), if_neg (by decide), if_neg (by decide), if_neg (by decide), if_pos rfl]
theorem q_client8 {μ : ed_CM} {nC c : Nat} (a4 : μ 0 0 0 4 = nI nC) (a6 : nC ≤ 8) (hc : c < nC) : f_X8_client (nI c) 8 μ = some (μ 0 11 c 8) := by
  unfold f_X8_client
  rw [pr_clientAt a4 a6 hc, pr_b]
  show ed_g (c < 8) _ = _
  rw [pr_g (by omega)]
  rw [if_neg (by decide), if_neg (by decide), if_neg (by decide), if_neg (by decide), if_neg (by decide), if_neg (by decide), if_neg (by decide), if_neg (by decide), if_pos rfl]
theorem q_client10 {μ : ed_CM} {nC c : Nat} (a4 : μ 0 0 0 4 = nI nC) (a6 : nC ≤ 8) (hc : c < nC) : f_X8_client (nI c) 10 μ = some (μ 0 11 c 9) := by
  unfold f_X8_client
  rw [pr_clientAt a4 a6 hc, pr_b]
  show ed_g (c < 8) _ = _
  rw [pr_g (by omega)]
  rw [if_neg (by decide), if_neg (by decide), if_neg (by decide), if_neg (by decide), if_neg (by decide), if_neg (by decide), if_neg (by decide), if_neg (by decide), if_neg (by decide), if_neg (by decide), if_pos rfl]
theorem q_client5 {μ : ed_CM} {nC c : Nat} (a4 : μ 0 0 0 4 = nI nC) (a6 : nC ≤ 8) (hc : c < nC) : f_X8_client (nI c) 5 μ = (if μ 0 11 c 5 = 0 then some 0 else some 1) := by
  unfold f_X8_client
  rw [pr_clientAt a4 a6 hc, pr_b]
  show ed_g (c < 8) _ = _
  rw [pr_g (by omega)]
  rw [if_neg (by decide), if_neg (by decide), if_neg (by decide), if_neg (by decide), if_neg (by decide), if_pos rfl]
theorem q_client9 {μ : ed_CM} {nC c : Nat} (a4 : μ 0 0 0 4 = nI nC) (a6 : nC ≤ 8) (hc : c < nC) : f_X8_client (nI c) 9 μ = f_X5_copiesOf (-1) (nI c) 1 (μ 0) := by
  unfold f_X8_client
  rw [pr_clientAt a4 a6 hc, pr_b]
  show ed_g (c < 8) _ = _
  rw [pr_g (by omega)]
  rw [if_neg (by decide), if_neg (by decide), if_neg (by decide), if_neg (by decide), if_neg (by decide), if_neg (by decide), if_neg (by decide), if_neg (by decide), if_neg (by decide), if_pos rfl, pr_bi]
theorem q_person0 {μ : ed_CM} {q : Nat} (hq : q < 10) : f_X8_person (nI q) 0 μ = some (μ 0 13 q 0) := by
  unfold f_X8_person
  rw [pr_personAt hq, pr_b]
  show ed_g (q < 10) _ = _
  rw [pr_g hq]
  rw [if_pos rfl]
theorem q_person1 {μ : ed_CM} {q : Nat} (hq : q < 10) : f_X8_person (nI q) 1 μ = some (μ 0 13 q 1) := by
  unfold f_X8_person
  rw [pr_personAt hq, pr_b]
  show ed_g (q < 10) _ = _
  rw [pr_g hq]
  rw [if_neg (by decide), if_pos rfl]
theorem q_person2 {μ : ed_CM} {q : Nat} (hq : q < 10) : f_X8_person (nI q) 2 μ = f_X5_storiesBy (nI q) (μ 0) := by
  unfold f_X8_person
  rw [pr_personAt hq, pr_b]
  show ed_g (q < 10) _ = _
  rw [pr_g hq]
  rw [if_neg (by decide), if_neg (by decide), if_pos rfl, pr_bi]
theorem q_copy0 {μ : ed_CM} {p : Nat} {x1 x2 : Int32} (hp : p < 160) (hf : f_X5_copyFor x1 x2 (μ 0) = some (some p)) : f_X8_copy x1 x2 0 μ = some (μ 0 12 p 2) := by
  unfold f_X8_copy
  rw [hf, pr_b]
  show ed_g (p < 160) _ = _
  rw [pr_g hp]
  rw [if_pos rfl]
theorem q_copy1 {μ : ed_CM} {p : Nat} {x1 x2 : Int32} (hp : p < 160) (hf : f_X5_copyFor x1 x2 (μ 0) = some (some p)) : f_X8_copy x1 x2 1 μ = some (μ 0 12 p 3) := by
  unfold f_X8_copy
  rw [hf, pr_b]
  show ed_g (p < 160) _ = _
  rw [pr_g hp]
  rw [if_neg (by decide), if_pos rfl]
theorem q_copy2 {μ : ed_CM} {p : Nat} {x1 x2 : Int32} (hp : p < 160) (hf : f_X5_copyFor x1 x2 (μ 0) = some (some p)) : f_X8_copy x1 x2 2 μ = some (μ 0 12 p 4) := by
  unfold f_X8_copy
  rw [hf, pr_b]
  show ed_g (p < 160) _ = _
  rw [pr_g hp]
  rw [if_neg (by decide), if_neg (by decide), if_pos rfl]
theorem q_copy3 {μ : ed_CM} {p : Nat} {x1 x2 : Int32} (hp : p < 160) (hf : f_X5_copyFor x1 x2 (μ 0) = some (some p)) : f_X8_copy x1 x2 3 μ = some (μ 0 12 p 5) := by
  unfold f_X8_copy
  rw [hf, pr_b]
  show ed_g (p < 160) _ = _
  rw [pr_g hp]
  rw [if_neg (by decide), if_neg (by decide), if_neg (by decide), if_pos rfl]
theorem q_copy4 {μ : ed_CM} {p : Nat} {x1 x2 : Int32} (hp : p < 160) (hf : f_X5_copyFor x1 x2 (μ 0) = some (some p)) : f_X8_copy x1 x2 4 μ = f_X5_correctionsMissing p (μ 0) := by
  unfold f_X8_copy
  rw [hf, pr_b]
  show ed_g (p < 160) _ = _
  rw [pr_g hp]
  rw [if_neg (by decide), if_neg (by decide), if_neg (by decide), if_neg (by decide), if_pos rfl, pr_bi]
theorem q_copy5 {μ : ed_CM} {p : Nat} {x1 x2 : Int32} (hp : p < 160) (hf : f_X5_copyFor x1 x2 (μ 0) = some (some p)) : f_X8_copy x1 x2 5 μ = f_X5_correctionsDue p (μ 0) := by
  unfold f_X8_copy
  rw [hf, pr_b]
  show ed_g (p < 160) _ = _
  rw [pr_g hp]
  rw [if_neg (by decide), if_neg (by decide), if_neg (by decide), if_neg (by decide), if_neg (by decide), if_pos rfl, pr_bi]
theorem q_copy6 {μ : ed_CM} {p : Nat} {x1 x2 : Int32} (hp : p < 160) (hf : f_X5_copyFor x1 x2 (μ 0) = some (some p)) : f_X8_copy x1 x2 6 μ = f_X5_nextCorrectionAt p (μ 0) := by
  unfold f_X8_copy
  rw [hf, pr_b]
  show ed_g (p < 160) _ = _
  rw [pr_g hp]
  rw [if_neg (by decide), if_neg (by decide), if_neg (by decide), if_neg (by decide), if_neg (by decide), if_neg (by decide), if_pos rfl, pr_bi]
theorem q_copy7 {μ : ed_CM} {p : Nat} {x1 x2 : Int32} (hp : p < 160) (hf : f_X5_copyFor x1 x2 (μ 0) = some (some p)) : f_X8_copy x1 x2 7 μ = f_X5_killNoticeAt p (μ 0) := by
  unfold f_X8_copy
  rw [hf, pr_b]
  show ed_g (p < 160) _ = _
  rw [pr_g hp]
  rw [if_neg (by decide), if_neg (by decide), if_neg (by decide), if_neg (by decide), if_neg (by decide), if_neg (by decide), if_neg (by decide), if_pos rfl, pr_bi]
theorem q_copy8 {μ : ed_CM} {p : Nat} {x1 x2 : Int32} (hp : p < 160) (hf : f_X5_copyFor x1 x2 (μ 0) = some (some p)) : f_X8_copy x1 x2 8 μ = some (f_X5_useEndsAt p (μ 0)) := by
  unfold f_X8_copy
  rw [hf, pr_b]
  show ed_g (p < 160) _ = _
  rw [pr_g hp]
  rw [if_neg (by decide), if_neg (by decide), if_neg (by decide), if_neg (by decide), if_neg (by decide), if_neg (by decide), if_neg (by decide), if_neg (by decide), if_pos rfl]
theorem q_copyAt {μ : ed_CM} {nK p : Nat} (a5 : μ 0 0 0 5 = nI nK) (a8 : nK ≤ 160) (hp : p < nK) : f_X8_copyAt (nI p) μ = some (10 * μ 0 12 p 0 + μ 0 12 p 1) := by
  unfold f_X8_copyAt
  rw [if_pos (nI_pos' (by omega)), pr_copyMade a5 a8 hp, pr_b]
  show ed_g (p < 160) _ = _
  rw [pr_g (by omega)]
theorem q_copyAt0 {μ : ed_CM} {nK p : Nat} (a5 : μ 0 0 0 5 = nI nK) (a8 : nK ≤ 160) (hp : nK ≤ p) (hp2 : p < 2 ^ 31) : f_X8_copyAt (nI p) μ = some (-5) := by
  unfold f_X8_copyAt
  rw [if_pos (nI_pos' hp2), pr_copyNo a5 a8 (Or.inr (by rw [pr_le (by omega) hp2]; exact hp)), pr_b]
theorem q_correction {μ : ed_CM} {nS s w k : Nat} (a3 : μ 0 0 0 3 = nI nS) (a7 : nS ≤ 20) (hs : s < nS) (hw : μ 0 7 s 7 = nI w) (hw6 : w ≤ 6) (hk : k < w) : f_X8_correction (nI s) (nI k) μ = some (μ 0 10 s k) := by
  unfold f_X8_correction
  rw [pr_storyAt a3 a7 hs, pr_b]
  show ed_g (s < 20) _ = _
  rw [pr_g (by omega), if_pos (nI_pos' (by omega)), pr_bi]
  exact pr_correctedAt hw hw6 hk
theorem q_byline {μ : ed_CM} {nS s m k : Nat} (a3 : μ 0 0 0 3 = nI nS) (a7 : nS ≤ 20) (hs : s < nS) (hm : μ 0 7 s 1 = nI m) (hm3 : m ≤ 3) (hk : k < m) : f_X8_byline (nI s) (nI k) μ = some (μ 0 8 s k) := by
  unfold f_X8_byline
  rw [pr_storyAt a3 a7 hs, pr_b]
  show ed_g (s < 20) _ = _
  rw [pr_g (by omega), if_pos (nI_pos' (by omega)), pr_bi]
  exact pr_authorAt hm hm3 hk
