/-! ===== what each stretch of each method does (by program wip/gen) ===== -/
-- LastStirred$Flock.clear()V
set_option maxRecDepth 1000000 in
set_option maxHeartbeats 8000000 in
theorem t_1_0 (call : Nat → List Value → Sto → Option Rr) (again : Nat → j_L → List Value → Sto → Option Rr) (σ : Sto) (v0 : Nat) :
    j_seg k_1 h_1 call again 2000 0 [some (.ref v0)] [] σ =
    if v0 < j_b then j_oc σ 0 v0 (let τ1 : Sto := s_uI σ v0 3 (j_k 0);
    if v0 < j_b then j_oc τ1 0 v0 (let τ2 : Sto := s_uI τ1 v0 4 (j_k (-9));
    if v0 < j_b then j_oc τ2 0 v0 (let τ3 : Sto := s_uI τ2 v0 5 (j_k (-9));
    if v0 < j_b then j_oc τ3 0 v0 (let τ4 : Sto := s_uI τ3 v0 6 (j_k (-9));
    if v0 < j_b then j_oc τ4 0 v0 (let τ5 : Sto := s_uI τ4 v0 7 (j_k (-9));
    if v0 < j_b then j_oc τ5 0 v0 (let τ6 : Sto := s_uI τ5 v0 8 (j_k 0);
    if v0 < j_b then j_oc τ6 0 v0 (let τ7 : Sto := s_uI τ6 v0 9 (j_k 0);
    some (none, τ7)) else none) else none) else none) else none) else none) else none) else none := rfl

-- LastStirred$Flock.add(II)V
set_option maxRecDepth 1000000 in
set_option maxHeartbeats 8000000 in
theorem t_2_0 (call : Nat → List Value → Sto → Option Rr) (again : Nat → j_L → List Value → Sto → Option Rr) (σ : Sto) (v0 : Nat) (v1 : Int32) (v2 : Int32) :
    j_seg k_2 h_2 call again 2000 0 [some (.ref v0), some (.int v1), some (.int v2)] [] σ =
    j_oc σ 0 v0 (if (s_I σ v0 3) < (j_k 4) then (j_gP σ 0 v0 0 (fun a1 =>
     j_oc σ 0 v0 (j_is σ a1 (s_I σ v0 3) (let τ2 : Sto := s_uI σ a1 (s_I σ v0 3).toNatClampNeg v1;
     j_gP τ2 0 v0 1 (fun a3 =>
     j_oc τ2 0 v0 (j_is τ2 a3 (s_I τ2 v0 3) (let τ4 : Sto := s_uI τ2 a3 (s_I τ2 v0 3).toNatClampNeg v2;
     j_gP τ4 0 v0 2 (fun a5 =>
     j_oc τ4 0 v0 (j_is τ4 a5 (s_I τ4 v0 3) (let τ6 : Sto := s_uI τ4 a5 (s_I τ4 v0 3).toNatClampNeg (j_k 0);
     j_oc τ6 0 v0 (if v0 < j_b then j_oc τ6 0 v0 (let τ7 : Sto := s_uI τ6 v0 9 ((s_I τ6 v0 9) ||| ((j_k 1) <<< (v2 &&& 31)));
     j_oc τ7 0 v0 (if v0 < j_b then j_oc τ7 0 v0 (let τ8 : Sto := s_uI τ7 v0 3 ((s_I τ7 v0 3) + (j_k 1));
     some (none, τ8)) else none)) else none)))))))))))
    else some (none, σ)) := rfl

-- LastStirred$Flock.take(LLastStirred$Flock;)V
set_option maxRecDepth 1000000 in
set_option maxHeartbeats 8000000 in
theorem t_3_0 (call : Nat → List Value → Sto → Option Rr) (again : Nat → j_L → List Value → Sto → Option Rr) (σ : Sto) (v0 : Nat) (v1 : Nat) :
    j_seg k_3 h_3 call again 2000 0 [some (.ref v0), some (.ref v1), none] [] σ =
    j_oc σ 0 v1 (if v0 < j_b then j_oc σ 0 v0 (let τ1 : Sto := s_uI σ v0 3 (s_I σ v1 3);
    again 10 [some (.ref v0), some (.ref v1), some (.int (j_k 0))] [] τ1) else none) := rfl

set_option maxRecDepth 1000000 in
set_option maxHeartbeats 8000000 in
theorem t_3_10 (call : Nat → List Value → Sto → Option Rr) (again : Nat → j_L → List Value → Sto → Option Rr) (σ : Sto) (v0 : Nat) (v1 : Nat) (v2 : Int32) :
    j_seg k_3 h_3 call again 2000 10 [some (.ref v0), some (.ref v1), some (.int v2)] [] σ =
    j_oc σ 0 v0 (if v2 < (s_I σ v0 3) then (j_gP σ 0 v0 0 (fun a1 =>
     j_gP σ 0 v1 0 (fun a2 =>
     j_ia σ a2 v2 (
     j_is σ a1 v2 (let τ3 : Sto := s_uI σ a1 v2.toNatClampNeg (s_I σ a2 v2.toNatClampNeg);
     j_gP τ3 0 v0 1 (fun a4 =>
     j_gP τ3 0 v1 1 (fun a5 =>
     j_ia τ3 a5 v2 (
     j_is τ3 a4 v2 (let τ6 : Sto := s_uI τ3 a4 v2.toNatClampNeg (s_I τ3 a5 v2.toNatClampNeg);
     j_gP τ6 0 v0 2 (fun a7 =>
     j_gP τ6 0 v1 2 (fun a8 =>
     j_ia τ6 a8 v2 (
     j_is τ6 a7 v2 (let τ9 : Sto := s_uI τ6 a7 v2.toNatClampNeg (s_I τ6 a8 v2.toNatClampNeg);
     again 10 [some (.ref v0), some (.ref v1), some (.int (v2 + (j_k 1)))] [] τ9)))))))))))))
    else j_oc σ 0 v1 (if v0 < j_b then j_oc σ 0 v0 (let τ10 : Sto := s_uI σ v0 4 (s_I σ v1 4);
    j_oc τ10 0 v1 (if v0 < j_b then j_oc τ10 0 v0 (let τ11 : Sto := s_uI τ10 v0 5 (s_I τ10 v1 5);
    j_oc τ11 0 v1 (if v0 < j_b then j_oc τ11 0 v0 (let τ12 : Sto := s_uI τ11 v0 6 (s_I τ11 v1 6);
    j_oc τ12 0 v1 (if v0 < j_b then j_oc τ12 0 v0 (let τ13 : Sto := s_uI τ12 v0 7 (s_I τ12 v1 7);
    j_oc τ13 0 v1 (if v0 < j_b then j_oc τ13 0 v0 (let τ14 : Sto := s_uI τ13 v0 8 (s_I τ13 v1 8);
    j_oc τ14 0 v1 (if v0 < j_b then j_oc τ14 0 v0 (let τ15 : Sto := s_uI τ14 v0 9 (s_I τ14 v1 9);
    some (none, τ15)) else none)) else none)) else none)) else none)) else none)) else none)) := rfl

-- LastStirred$Flock.has(I)Z
set_option maxRecDepth 1000000 in
set_option maxHeartbeats 8000000 in
theorem t_5_0 (call : Nat → List Value → Sto → Option Rr) (again : Nat → j_L → List Value → Sto → Option Rr) (σ : Sto) (v0 : Nat) (v1 : Int32) :
    j_seg k_5 h_5 call again 2000 0 [some (.ref v0), some (.int v1)] [] σ =
    if v1 < 0 then (if (j_k 0) = 0 ∨ (j_k 0) = 1 then some (some (.int (j_k 0)), σ) else none)
    else j_oc σ 0 v0 (if v1 < (s_I σ v0 3) then (if (j_k 1) = 0 ∨ (j_k 1) = 1 then some (some (.int (j_k 1)), σ) else none)
    else if (j_k 0) = 0 ∨ (j_k 0) = 1 then some (some (.int (j_k 0)), σ) else none) := rfl

-- LastStirred$Flock.isLost(I)Z
set_option maxRecDepth 1000000 in
set_option maxHeartbeats 8000000 in
theorem t_6_0 (call : Nat → List Value → Sto → Option Rr) (again : Nat → j_L → List Value → Sto → Option Rr) (σ : Sto) (v0 : Nat) (v1 : Int32) :
    j_seg k_6 h_6 call again 2000 0 [some (.ref v0), some (.int v1)] [] σ =
    j_gP σ 0 v0 1 (fun a1 =>
    j_ia σ a1 v1 (
    if (s_I σ a1 v1.toNatClampNeg) = (j_k (-9)) then (if (j_k 1) = 0 ∨ (j_k 1) = 1 then some (some (.int (j_k 1)), σ) else none)
    else if (j_k 0) = 0 ∨ (j_k 0) = 1 then some (some (.int (j_k 0)), σ) else none)) := rfl

-- LastStirred$Flock.isIn(I)Z
set_option maxRecDepth 1000000 in
set_option maxHeartbeats 8000000 in
theorem t_7_0 (call : Nat → List Value → Sto → Option Rr) (again : Nat → j_L → List Value → Sto → Option Rr) (σ : Sto) (v0 : Nat) (v1 : Int32) :
    j_seg k_7 h_7 call again 2000 0 [some (.ref v0), some (.int v1)] [] σ =
    j_oc σ 0 v0 (if (((s_I σ v0 9) >>> (v1 &&& 31)) &&& (j_k 1)) = (j_k 1) then (if (j_k 1) = 0 ∨ (j_k 1) = 1 then some (some (.int (j_k 1)), σ) else none)
    else if (j_k 0) = 0 ∨ (j_k 0) = 1 then some (some (.int (j_k 0)), σ) else none) := rfl

-- LastStirred$Flock.whoIsIn(I)I
set_option maxRecDepth 1000000 in
set_option maxHeartbeats 8000000 in
theorem t_8_0 (call : Nat → List Value → Sto → Option Rr) (again : Nat → j_L → List Value → Sto → Option Rr) (σ : Sto) (v0 : Nat) (v1 : Int32) :
    j_seg k_8 h_8 call again 2000 0 [some (.ref v0), some (.int v1), none] [] σ =
    again 2 [some (.ref v0), some (.int v1), some (.int (j_k 0))] [] σ := rfl

set_option maxRecDepth 1000000 in
set_option maxHeartbeats 8000000 in
theorem t_8_2 (call : Nat → List Value → Sto → Option Rr) (again : Nat → j_L → List Value → Sto → Option Rr) (σ : Sto) (v0 : Nat) (v1 : Int32) (v2 : Int32) :
    j_seg k_8 h_8 call again 2000 2 [some (.ref v0), some (.int v1), some (.int v2)] [] σ =
    j_oc σ 0 v0 (if v2 < (s_I σ v0 3) then (j_gP σ 0 v0 1 (fun a1 =>
     j_ia σ a1 v2 (
     if (s_I σ a1 v2.toNatClampNeg) = v1 then (some (some (.int v2), σ))
     else again 2 [some (.ref v0), some (.int v1), some (.int (v2 + (j_k 1)))] [] σ)))
    else some (some (.int (j_k (-9))), σ)) := rfl

-- LastStirred$Flock.isShy(I)Z
set_option maxRecDepth 1000000 in
set_option maxHeartbeats 8000000 in
theorem t_10_0 (call : Nat → List Value → Sto → Option Rr) (again : Nat → j_L → List Value → Sto → Option Rr) (σ : Sto) (v0 : Nat) (v1 : Int32) :
    j_seg k_10 h_10 call again 2000 0 [some (.ref v0), some (.int v1)] [] σ =
    j_gP σ 0 v0 0 (fun a1 =>
    j_ia σ a1 v1 (
    if (s_I σ a1 v1.toNatClampNeg) = (j_k 1) then (if (j_k 1) = 0 ∨ (j_k 1) = 1 then some (some (.int (j_k 1)), σ) else none)
    else j_gP σ 0 v0 0 (fun a2 =>
    j_ia σ a2 v1 (
    if (s_I σ a2 v1.toNatClampNeg) = (j_k 5) then (if (j_k 1) = 0 ∨ (j_k 1) = 1 then some (some (.int (j_k 1)), σ) else none)
    else if (j_k 0) = 0 ∨ (j_k 0) = 1 then some (some (.int (j_k 0)), σ) else none)))) := rfl

-- LastStirred$Flock.isSlow(I)Z
set_option maxRecDepth 1000000 in
set_option maxHeartbeats 8000000 in
theorem t_11_0 (call : Nat → List Value → Sto → Option Rr) (again : Nat → j_L → List Value → Sto → Option Rr) (σ : Sto) (v0 : Nat) (v1 : Int32) :
    j_seg k_11 h_11 call again 2000 0 [some (.ref v0), some (.int v1)] [] σ =
    j_gP σ 0 v0 0 (fun a1 =>
    j_ia σ a1 v1 (
    if (s_I σ a1 v1.toNatClampNeg) = (j_k 2) then (if (j_k 1) = 0 ∨ (j_k 1) = 1 then some (some (.int (j_k 1)), σ) else none)
    else j_gP σ 0 v0 0 (fun a2 =>
    j_ia σ a2 v1 (
    if (s_I σ a2 v1.toNatClampNeg) = (j_k 4) then (if (j_k 1) = 0 ∨ (j_k 1) = 1 then some (some (.int (j_k 1)), σ) else none)
    else if (j_k 0) = 0 ∨ (j_k 0) = 1 then some (some (.int (j_k 0)), σ) else none)))) := rfl

-- LastStirred$Flock.tells(II)I
set_option maxRecDepth 1000000 in
set_option maxHeartbeats 8000000 in
theorem t_12_0 (call : Nat → List Value → Sto → Option Rr) (again : Nat → j_L → List Value → Sto → Option Rr) (σ : Sto) (v0 : Nat) (v1 : Int32) (v2 : Int32) :
    j_seg k_12 h_12 call again 2000 0 [some (.ref v0), some (.int v1), some (.int v2)] [] σ =
    if v2 = (j_k 0) then (j_gP σ 0 v0 0 (fun a1 =>
     j_ia σ a1 v1 (
     some (some (.int (s_I σ a1 v1.toNatClampNeg)), σ))))
    else if v2 = (j_k 1) then (j_gP σ 0 v0 1 (fun a2 =>
     j_ia σ a2 v1 (
     some (some (.int (s_I σ a2 v1.toNatClampNeg)), σ))))
    else j_gP σ 0 v0 2 (fun a3 =>
    j_ia σ a3 v1 (
    some (some (.int (s_I σ a3 v1.toNatClampNeg)), σ))) := rfl

-- LastStirred$Flock.drives()I
set_option maxRecDepth 1000000 in
set_option maxHeartbeats 8000000 in
theorem t_13_0 (call : Nat → List Value → Sto → Option Rr) (again : Nat → j_L → List Value → Sto → Option Rr) (σ : Sto) (v0 : Nat) :
    j_seg k_13 h_13 call again 2000 0 [some (.ref v0)] [] σ =
    j_oc σ 0 v0 (some (some (.int ((j_k 4) * (s_I σ v0 3))), σ)) := rfl

-- LastStirred$Flock.lostOnes()I
set_option maxRecDepth 1000000 in
set_option maxHeartbeats 8000000 in
theorem t_14_0 (call : Nat → List Value → Sto → Option Rr) (again : Nat → j_L → List Value → Sto → Option Rr) (σ : Sto) (v0 : Nat) :
    j_seg k_14 h_14 call again 2000 0 [some (.ref v0), none, none] [] σ =
    again 4 [some (.ref v0), some (.int (j_k 0)), some (.int (j_k 0))] [] σ := rfl

set_option maxRecDepth 1000000 in
set_option maxHeartbeats 8000000 in
theorem t_14_4 (call : Nat → List Value → Sto → Option Rr) (again : Nat → j_L → List Value → Sto → Option Rr) (σ : Sto) (v0 : Nat) (v1 : Int32) (v2 : Int32) :
    j_seg k_14 h_14 call again 2000 4 [some (.ref v0), some (.int v1), some (.int v2)] [] σ =
    j_oc σ 0 v0 (if v2 < (s_I σ v0 3) then (j_gP σ 0 v0 1 (fun a1 =>
     j_ia σ a1 v2 (
     if (s_I σ a1 v2.toNatClampNeg) = (j_k (-9)) then (again 4 [some (.ref v0), some (.int (v1 + (j_k 1))), some (.int (v2 + (j_k 1)))] [] σ)
     else again 4 [some (.ref v0), some (.int v1), some (.int (v2 + (j_k 1)))] [] σ)))
    else some (some (.int v1), σ)) := rfl

-- LastStirred$Flock.shyOnes()I
set_option maxRecDepth 1000000 in
set_option maxHeartbeats 8000000 in
theorem t_15_0 (call : Nat → List Value → Sto → Option Rr) (again : Nat → j_L → List Value → Sto → Option Rr) (σ : Sto) (v0 : Nat) :
    j_seg k_15 h_15 call again 2000 0 [some (.ref v0), none, none] [] σ =
    again 4 [some (.ref v0), some (.int (j_k 0)), some (.int (j_k 0))] [] σ := rfl

set_option maxRecDepth 1000000 in
set_option maxHeartbeats 8000000 in
theorem t_15_4 (call : Nat → List Value → Sto → Option Rr) (again : Nat → j_L → List Value → Sto → Option Rr) (σ : Sto) (v0 : Nat) (v1 : Int32) (v2 : Int32) :
    j_seg k_15 h_15 call again 2000 4 [some (.ref v0), some (.int v1), some (.int v2)] [] σ =
    j_oc σ 0 v0 (if v2 < (s_I σ v0 3) then (j_oc σ 0 v0 (j_c1 call 10 [.ref v0, .int v2] σ (fun x2 τ1 =>
     if x2 = 0 then (again 4 [some (.ref v0), some (.int v1), some (.int (v2 + (j_k 1)))] [] τ1)
     else again 4 [some (.ref v0), some (.int (v1 + (j_k 1))), some (.int (v2 + (j_k 1)))] [] τ1)))
    else some (some (.int v1), σ)) := rfl

-- LastStirred$Flock.allOff(LLastStirred$Ground;)I
set_option maxRecDepth 1000000 in
set_option maxHeartbeats 8000000 in
theorem t_16_0 (call : Nat → List Value → Sto → Option Rr) (again : Nat → j_L → List Value → Sto → Option Rr) (σ : Sto) (v0 : Nat) (v1 : Nat) :
    j_seg k_16 h_16 call again 2000 0 [some (.ref v0), some (.ref v1), none, none, none] [] σ =
    again 4 [some (.ref v0), some (.ref v1), some (.int (j_k 0)), some (.int (j_k 0)), none] [] σ := rfl

set_option maxRecDepth 1000000 in
set_option maxHeartbeats 8000000 in
theorem t_16_4 (call : Nat → List Value → Sto → Option Rr) (again : Nat → j_L → List Value → Sto → Option Rr) (σ : Sto) (v0 : Nat) (v1 : Nat) (v2 : Int32) (v3 : Int32) :
    j_seg k_16 h_16 call again 2000 4 [some (.ref v0), some (.ref v1), some (.int v2), some (.int v3), none] [] σ =
    j_oc σ 0 v0 (if v3 < (s_I σ v0 3) then (again 17 [some (.ref v0), some (.ref v1), some (.int v2), some (.int v3), some (.int (v3 + (j_k 1)))] [] σ)
    else some (some (.int v2), σ)) := rfl

set_option maxRecDepth 1000000 in
set_option maxHeartbeats 8000000 in
theorem t_16_17 (call : Nat → List Value → Sto → Option Rr) (again : Nat → j_L → List Value → Sto → Option Rr) (σ : Sto) (v0 : Nat) (v1 : Nat) (v2 : Int32) (v3 : Int32) (v4 : Int32) :
    j_seg k_16 h_16 call again 2000 17 [some (.ref v0), some (.ref v1), some (.int v2), some (.int v3), some (.int v4)] [] σ =
    j_oc σ 0 v0 (if v4 < (s_I σ v0 3) then (j_gP σ 0 v0 1 (fun a1 =>
     j_ia σ a1 v3 (
     if (s_I σ a1 v3.toNatClampNeg) = (j_k (-9)) then (again 17 [some (.ref v0), some (.ref v1), some (.int v2), some (.int v3), some (.int (v4 + (j_k 1)))] [] σ)
     else j_gP σ 0 v0 1 (fun a2 =>
     j_ia σ a2 v4 (
     if (s_I σ a2 v4.toNatClampNeg) = (j_k (-9)) then (again 17 [some (.ref v0), some (.ref v1), some (.int v2), some (.int v3), some (.int (v4 + (j_k 1)))] [] σ)
     else j_gP σ 0 v0 1 (fun a3 =>
     j_ia σ a3 v3 (
     j_gP σ 0 v0 1 (fun a4 =>
     j_ia σ a4 v4 (
     j_oc σ 1 v1 (j_c1 call 37 [.ref v1, .int (s_I σ a3 v3.toNatClampNeg), .int (s_I σ a4 v4.toNatClampNeg)] σ (fun x6 τ5 =>
     again 17 [some (.ref v0), some (.ref v1), some (.int (v2 + x6)), some (.int v3), some (.int (v4 + (j_k 1)))] [] τ5)))))))))))
    else again 4 [some (.ref v0), some (.ref v1), some (.int v2), some (.int (v3 + (j_k 1))), none] [] σ) := rfl

-- LastStirred$Flock.areSafe(LLastStirred$Ground;)Z
set_option maxRecDepth 1000000 in
set_option maxHeartbeats 8000000 in
theorem t_17_0 (call : Nat → List Value → Sto → Option Rr) (again : Nat → j_L → List Value → Sto → Option Rr) (σ : Sto) (v0 : Nat) (v1 : Nat) :
    j_seg k_17 h_17 call again 2000 0 [some (.ref v0), some (.ref v1), none] [] σ =
    again 2 [some (.ref v0), some (.ref v1), some (.int (j_k 0))] [] σ := rfl

set_option maxRecDepth 1000000 in
set_option maxHeartbeats 8000000 in
theorem t_17_2 (call : Nat → List Value → Sto → Option Rr) (again : Nat → j_L → List Value → Sto → Option Rr) (σ : Sto) (v0 : Nat) (v1 : Nat) (v2 : Int32) :
    j_seg k_17 h_17 call again 2000 2 [some (.ref v0), some (.ref v1), some (.int v2)] [] σ =
    j_oc σ 0 v0 (if v2 < (s_I σ v0 3) then (j_gP σ 0 v0 1 (fun a1 =>
     j_ia σ a1 v2 (
     if (s_I σ a1 v2.toNatClampNeg) = (j_k (-9)) then (if (j_k 0) = 0 ∨ (j_k 0) = 1 then some (some (.int (j_k 0)), σ) else none)
     else j_gP σ 1 v1 0 (fun a2 =>
     j_gP σ 0 v0 1 (fun a3 =>
     j_ia σ a3 v2 (
     j_ia σ a2 (s_I σ a3 v2.toNatClampNeg) (
     if (s_I σ a2 (s_I σ a3 v2.toNatClampNeg).toNatClampNeg) = (j_k 3) then (again 2 [some (.ref v0), some (.ref v1), some (.int (v2 + (j_k 1)))] [] σ)
     else if (j_k 0) = 0 ∨ (j_k 0) = 1 then some (some (.int (j_k 0)), σ) else none)))))))
    else j_oc σ 0 v0 (if 0 < (s_I σ v0 3) then (if (j_k 1) = 0 ∨ (j_k 1) = 1 then some (some (.int (j_k 1)), σ) else none)
    else if (j_k 0) = 0 ∨ (j_k 0) = 1 then some (some (.int (j_k 0)), σ) else none)) := rfl

-- LastStirred$Flock.areAt([I)Z
set_option maxRecDepth 1000000 in
set_option maxHeartbeats 8000000 in
theorem t_18_0 (call : Nat → List Value → Sto → Option Rr) (again : Nat → j_L → List Value → Sto → Option Rr) (σ : Sto) (v0 : Nat) (v1 : Nat) :
    j_seg k_18 h_18 call again 2000 0 [some (.ref v0), some (.ref v1), none] [] σ =
    again 2 [some (.ref v0), some (.ref v1), some (.int (j_k 0))] [] σ := rfl

set_option maxRecDepth 1000000 in
set_option maxHeartbeats 8000000 in
theorem t_18_2 (call : Nat → List Value → Sto → Option Rr) (again : Nat → j_L → List Value → Sto → Option Rr) (σ : Sto) (v0 : Nat) (v1 : Nat) (v2 : Int32) :
    j_seg k_18 h_18 call again 2000 2 [some (.ref v0), some (.ref v1), some (.int v2)] [] σ =
    j_oc σ 0 v0 (if v2 < (s_I σ v0 3) then (j_gP σ 0 v0 1 (fun a1 =>
     j_ia σ a1 v2 (
     j_ia σ v1 v2 (
     if (s_I σ a1 v2.toNatClampNeg) = (s_I σ v1 v2.toNatClampNeg) then (again 2 [some (.ref v0), some (.ref v1), some (.int (v2 + (j_k 1)))] [] σ)
     else if (j_k 0) = 0 ∨ (j_k 0) = 1 then some (some (.int (j_k 0)), σ) else none))))
    else if (j_k 1) = 0 ∨ (j_k 1) = 1 then some (some (.int (j_k 1)), σ) else none) := rfl

-- LastStirred$Flock.inOneNumber()J
set_option maxRecDepth 1000000 in
set_option maxHeartbeats 8000000 in
theorem t_19_0 (call : Nat → List Value → Sto → Option Rr) (again : Nat → j_L → List Value → Sto → Option Rr) (σ : Sto) (v0 : Nat) :
    j_seg k_19 h_19 call again 2000 0 [some (.ref v0), none, none, none] [] σ =
    j_oc σ 0 v0 (again 10 [some (.ref v0), some (.long (((s_I σ v0 8) &&& (j_k 1)).toInt64)), none, some (.int (j_k 0))] [] σ) := rfl

set_option maxRecDepth 1000000 in
set_option maxHeartbeats 8000000 in
theorem t_19_10 (call : Nat → List Value → Sto → Option Rr) (again : Nat → j_L → List Value → Sto → Option Rr) (σ : Sto) (v0 : Nat) (v1 : Int64) (v3 : Int32) :
    j_seg k_19 h_19 call again 2000 10 [some (.ref v0), some (.long v1), none, some (.int v3)] [] σ =
    j_oc σ 0 v0 (if v3 < (s_I σ v0 3) then (j_gP σ 0 v0 1 (fun a1 =>
     j_ia σ a1 v3 (
     j_c2 call 20 [.long v1, .int (s_I σ a1 v3.toNatClampNeg)] σ (fun x3 τ2 =>
     again 10 [some (.ref v0), some (.long x3), none, some (.int (v3 + (j_k 1)))] [] τ2))))
    else j_oc σ 0 v0 (j_c2 call 20 [.long v1, .int (s_I σ v0 4)] σ (fun x5 τ4 =>
    j_oc τ4 0 v0 (j_c2 call 20 [.long x5, .int (s_I τ4 v0 5)] τ4 (fun x7 τ6 =>
    j_oc τ6 0 v0 (j_c2 call 20 [.long x7, .int (s_I τ6 v0 6)] τ6 (fun x9 τ8 =>
    j_oc τ8 0 v0 (j_c2 call 20 [.long x9, .int (s_I τ8 v0 7)] τ8 (fun x11 τ10 =>
    some (some (.long x11), τ10)))))))))) := rfl

-- LastStirred$Flock.joined(JI)J
set_option maxRecDepth 1000000 in
set_option maxHeartbeats 8000000 in
theorem t_20_0 (call : Nat → List Value → Sto → Option Rr) (again : Nat → j_L → List Value → Sto → Option Rr) (σ : Sto) (v0 : Int64) (v2 : Int32) :
    j_seg k_20 h_20 call again 2000 0 [some (.long v0), none, some (.int v2)] [] σ =
    if v2 = (j_k (-9)) then (some (some (.long (((j_cJ 0) * v0) + (j_k 31).toInt64)), σ))
    else some (some (.long (((j_cJ 0) * v0) + v2.toInt64)), σ) := rfl

-- LastStirred$Flock.aimOf(I)I
set_option maxRecDepth 1000000 in
set_option maxHeartbeats 8000000 in
theorem t_21_0 (call : Nat → List Value → Sto → Option Rr) (again : Nat → j_L → List Value → Sto → Option Rr) (σ : Sto) (v0 : Nat) (v1 : Int32) :
    j_seg k_21 h_21 call again 2000 0 [some (.ref v0), some (.int v1)] [] σ =
    j_gP σ 0 v0 0 (fun a1 =>
    j_ia σ a1 v1 (
    if (s_I σ a1 v1.toNatClampNeg) = (j_k 3) then (j_oc σ 0 v0 (if (s_I σ v0 6) = (j_k (-9)) then (j_oc σ 0 v0 (some (some (.int (s_I σ v0 5)), σ)))
     else j_oc σ 0 v0 (some (some (.int (s_I σ v0 7)), σ))))
    else j_oc σ 0 v0 (some (some (.int (s_I σ v0 5)), σ)))) := rfl

-- LastStirred$Flock.can(LLastStirred$Ground;IIZ)Z
set_option maxRecDepth 1000000 in
set_option maxHeartbeats 8000000 in
theorem t_22_0 (call : Nat → List Value → Sto → Option Rr) (again : Nat → j_L → List Value → Sto → Option Rr) (σ : Sto) (v0 : Nat) (v1 : Nat) (v2 : Int32) (v3 : Int32) (v4 : Int32) :
    j_seg k_22 h_22 call again 2000 0 [some (.ref v0), some (.ref v1), some (.int v2), some (.int v3), some (.int v4)] [] σ =
    if v3 = (j_k (-9)) then (if (j_k 0) = 0 ∨ (j_k 0) = 1 then some (some (.int (j_k 0)), σ) else none)
    else j_gP σ 1 v1 0 (fun a1 =>
    j_ia σ a1 v3 (
    if (s_I σ a1 v3.toNatClampNeg) = (j_k 1) then (if (j_k 0) = 0 ∨ (j_k 0) = 1 then some (some (.int (j_k 0)), σ) else none)
    else j_oc σ 0 v0 (if (((s_I σ v0 9) >>> (v3 &&& 31)) &&& (j_k 1)) = (j_k 1) then (if (j_k 0) = 0 ∨ (j_k 0) = 1 then some (some (.int (j_k 0)), σ) else none)
    else j_gP σ 1 v1 0 (fun a2 =>
    j_ia σ a2 v3 (
    if (s_I σ a2 v3.toNatClampNeg) = (j_k 4) then (j_gP σ 0 v0 0 (fun a3 =>
     j_ia σ a3 v2 (
     if (s_I σ a3 v2.toNatClampNeg) = (j_k 4) then (if (j_k 0) = 0 ∨ (j_k 0) = 1 then some (some (.int (j_k 0)), σ) else none)
     else if v4 = 0 then (if (j_k 1) = 0 ∨ (j_k 1) = 1 then some (some (.int (j_k 1)), σ) else none)
     else if (j_k 0) = 0 ∨ (j_k 0) = 1 then some (some (.int (j_k 0)), σ) else none)))
    else if (j_k 1) = 0 ∨ (j_k 1) = 1 then some (some (.int (j_k 1)), σ) else none))))) := rfl

-- LastStirred$Flock.move(LLastStirred$Ground;II)V
set_option maxRecDepth 1000000 in
set_option maxHeartbeats 8000000 in
theorem t_23_0 (call : Nat → List Value → Sto → Option Rr) (again : Nat → j_L → List Value → Sto → Option Rr) (σ : Sto) (v0 : Nat) (v1 : Nat) (v2 : Int32) (v3 : Int32) :
    j_seg k_23 h_23 call again 2000 0 [some (.ref v0), some (.ref v1), some (.int v2), some (.int v3)] [] σ =
    j_oc σ 0 v0 (j_gP σ 0 v0 1 (fun a1 =>
    j_ia σ a1 v2 (
    if v0 < j_b then j_oc σ 0 v0 (let τ2 : Sto := s_uI σ v0 9 ((s_I σ v0 9) &&& (((j_k 1) <<< ((s_I σ a1 v2.toNatClampNeg) &&& 31)) ^^^ (j_k (-1))));
    j_gP τ2 1 v1 0 (fun a3 =>
    j_ia τ2 a3 v3 (
    if (s_I τ2 a3 v3.toNatClampNeg) = (j_k 2) then (j_gP τ2 0 v0 1 (fun a4 =>
     j_is τ2 a4 v2 (let τ5 : Sto := s_uI τ2 a4 v2.toNatClampNeg (j_k (-9));
     j_gP τ5 0 v0 2 (fun a6 =>
     j_ia τ5 a6 v2 (
     j_is τ5 a6 v2 (let τ7 : Sto := s_uI τ5 a6 v2.toNatClampNeg ((s_I τ5 a6 v2.toNatClampNeg) + (j_k 1));
     some (none, τ7)))))))
    else j_gP τ2 0 v0 1 (fun a8 =>
    j_is τ2 a8 v2 (let τ9 : Sto := s_uI τ2 a8 v2.toNatClampNeg v3;
    j_oc τ9 0 v0 (if v0 < j_b then j_oc τ9 0 v0 (let τ10 : Sto := s_uI τ9 v0 9 ((s_I τ9 v0 9) ||| ((j_k 1) <<< (v3 &&& 31)));
    j_gP τ10 0 v0 2 (fun a11 =>
    j_ia τ10 a11 v2 (
    j_is τ10 a11 v2 (let τ12 : Sto := s_uI τ10 a11 v2.toNatClampNeg ((s_I τ10 a11 v2.toNatClampNeg) + (j_k 1));
    some (none, τ12))))) else none)))))) else none))) := rfl

-- LastStirred$Flock.becomesLast(II)V
set_option maxRecDepth 1000000 in
set_option maxHeartbeats 8000000 in
theorem t_24_0 (call : Nat → List Value → Sto → Option Rr) (again : Nat → j_L → List Value → Sto → Option Rr) (σ : Sto) (v0 : Nat) (v1 : Int32) (v2 : Int32) :
    j_seg k_24 h_24 call again 2000 0 [some (.ref v0), some (.int v1), some (.int v2)] [] σ =
    j_oc σ 0 v0 (if v0 < j_b then j_oc σ 0 v0 (let τ1 : Sto := s_uI σ v0 6 (s_I σ v0 4);
    j_oc τ1 0 v0 (if v0 < j_b then j_oc τ1 0 v0 (let τ2 : Sto := s_uI τ1 v0 7 (s_I τ1 v0 5);
    if v0 < j_b then j_oc τ2 0 v0 (let τ3 : Sto := s_uI τ2 v0 4 v1;
    if v0 < j_b then j_oc τ3 0 v0 (let τ4 : Sto := s_uI τ3 v0 5 v2;
    some (none, τ4)) else none) else none) else none)) else none) := rfl

-- LastStirred$Flock.stirBy(LLastStirred$Ground;II)I
set_option maxRecDepth 1000000 in
set_option maxHeartbeats 8000000 in
theorem t_25_0 (call : Nat → List Value → Sto → Option Rr) (again : Nat → j_L → List Value → Sto → Option Rr) (σ : Sto) (v0 : Nat) (v1 : Nat) (v2 : Int32) (v3 : Int32) :
    j_seg k_25 h_25 call again 2000 0 [some (.ref v0), some (.ref v1), some (.int v2), some (.int v3), none] [] σ =
    j_oc σ 0 v0 (j_c1 call 5 [.ref v0, .int v2] σ (fun x2 τ1 =>
    if x2 = 0 then (some (some (.int (j_k (-9))), τ1))
    else j_gP τ1 0 v0 1 (fun a3 =>
    j_ia τ1 a3 v2 (
    if (s_I τ1 a3 v2.toNatClampNeg) = (j_k (-9)) then (some (some (.int (j_k (-9))), τ1))
    else j_gP τ1 0 v0 1 (fun a4 =>
    j_ia τ1 a4 v2 (
    j_oc τ1 1 v1 (j_c1 call 38 [.ref v1, .int (s_I τ1 a4 v2.toNatClampNeg), .int v3] τ1 (fun x6 τ5 =>
    j_oc τ5 0 v0 (j_c1 call 22 [.ref v0, .ref v1, .int v2, .int x6, .int (j_k 0)] τ5 (fun x8 τ7 =>
    if x8 = 0 then (some (some (.int (j_k (-9))), τ7))
    else j_oc τ7 0 v0 (j_c0 call 23 [.ref v0, .ref v1, .int v2, .int x6] τ7 (fun τ9 =>
    j_oc τ9 0 v0 (j_c0 call 24 [.ref v0, .int v2, .int x6] τ9 (fun τ10 =>
    some (some (.int x6), τ10))))))))))))))) := rfl

-- LastStirred$Flock.takeStep(LLastStirred$Ground;)I
set_option maxRecDepth 1000000 in
set_option maxHeartbeats 8000000 in
theorem t_26_0 (call : Nat → List Value → Sto → Option Rr) (again : Nat → j_L → List Value → Sto → Option Rr) (σ : Sto) (v0 : Nat) (v1 : Nat) :
    j_seg k_26 h_26 call again 2000 0 [some (.ref v0), some (.ref v1), none, none, none, none, none, none] [] σ =
    again 15 [some (.ref v0), some (.ref v1), some (.int (j_k 0)), some (.int (j_k (-9))), some (.int (j_k (-9))), some (.int (j_k 0)), some (.int (j_k 0)), none] [] σ := rfl

set_option maxRecDepth 1000000 in
set_option maxHeartbeats 8000000 in
theorem t_26_15 (call : Nat → List Value → Sto → Option Rr) (again : Nat → j_L → List Value → Sto → Option Rr) (σ : Sto) (v0 : Nat) (v1 : Nat) (v2 : Int32) (v3 : Int32) (v4 : Int32) (v5 : Int32) (v6 : Int32) :
    j_seg k_26 h_26 call again 2000 15 [some (.ref v0), some (.ref v1), some (.int v2), some (.int v3), some (.int v4), some (.int v5), some (.int v6), none] [] σ =
    j_oc σ 0 v0 (if v6 < (s_I σ v0 3) then (j_oc σ 0 v0 (if v6 = (s_I σ v0 4) then (again 15 [some (.ref v0), some (.ref v1), some (.int v2), some (.int v3), some (.int v4), some (.int v5), some (.int (v6 + (j_k 1))), none] [] σ)
     else j_gP σ 0 v0 1 (fun a1 =>
     j_ia σ a1 v6 (
     if (s_I σ a1 v6.toNatClampNeg) = (j_k (-9)) then (again 15 [some (.ref v0), some (.ref v1), some (.int v2), some (.int v3), some (.int v4), some (.int v5), some (.int (v6 + (j_k 1))), none] [] σ)
     else j_oc σ 0 v0 (if ((s_I σ v0 8) &&& (j_k 1)) = (j_k 1) then (j_oc σ 0 v0 (j_c1 call 11 [.ref v0, .int v6] σ (fun x3 τ2 =>
      if x3 = 0 then (j_oc τ2 0 v0 (j_c1 call 27 [.ref v0, .ref v1, .int v6, .int v5] τ2 (fun x5 τ4 =>
       if x5 = (j_k (-9)) then (again 15 [some (.ref v0), some (.ref v1), some (.int v2), some (.int v3), some (.int v4), some (.int v5), some (.int (v6 + (j_k 1))), none] [] τ4)
       else j_oc τ4 0 v0 (j_c0 call 23 [.ref v0, .ref v1, .int v6, .int x5] τ4 (fun τ6 =>
       j_gP τ6 1 v1 0 (fun a7 =>
       j_ia τ6 a7 x5 (
       if (s_I τ6 a7 x5.toNatClampNeg) = (j_k 4) then (again 15 [some (.ref v0), some (.ref v1), some (.int (v2 ||| ((j_k 1) <<< (v6 &&& 31)))), some (.int v6), some (.int x5), some (.int (j_k 1)), some (.int (v6 + (j_k 1))), none] [] τ6)
       else again 15 [some (.ref v0), some (.ref v1), some (.int (v2 ||| ((j_k 1) <<< (v6 &&& 31)))), some (.int v6), some (.int x5), some (.int v5), some (.int (v6 + (j_k 1))), none] [] τ6)))))))
      else again 15 [some (.ref v0), some (.ref v1), some (.int v2), some (.int v3), some (.int v4), some (.int v5), some (.int (v6 + (j_k 1))), none] [] τ2)))
     else j_oc σ 0 v0 (j_c1 call 27 [.ref v0, .ref v1, .int v6, .int v5] σ (fun x9 τ8 =>
     if x9 = (j_k (-9)) then (again 15 [some (.ref v0), some (.ref v1), some (.int v2), some (.int v3), some (.int v4), some (.int v5), some (.int (v6 + (j_k 1))), none] [] τ8)
     else j_oc τ8 0 v0 (j_c0 call 23 [.ref v0, .ref v1, .int v6, .int x9] τ8 (fun τ10 =>
     j_gP τ10 1 v1 0 (fun a11 =>
     j_ia τ10 a11 x9 (
     if (s_I τ10 a11 x9.toNatClampNeg) = (j_k 4) then (again 15 [some (.ref v0), some (.ref v1), some (.int (v2 ||| ((j_k 1) <<< (v6 &&& 31)))), some (.int v6), some (.int x9), some (.int (j_k 1)), some (.int (v6 + (j_k 1))), none] [] τ10)
     else again 15 [some (.ref v0), some (.ref v1), some (.int (v2 ||| ((j_k 1) <<< (v6 &&& 31)))), some (.int v6), some (.int x9), some (.int v5), some (.int (v6 + (j_k 1))), none] [] τ10)))))))))))
    else j_oc σ 0 v0 (if v0 < j_b then j_oc σ 0 v0 (let τ12 : Sto := s_uI σ v0 8 ((s_I σ v0 8) + (j_k 1));
    if v3 = (j_k (-9)) then (some (some (.int v2), τ12))
    else j_oc τ12 0 v0 (j_c0 call 24 [.ref v0, .int v3, .int v4] τ12 (fun τ13 =>
    some (some (.int v2), τ13)))) else none)) := rfl

-- LastStirred$Flock.nextCell(LLastStirred$Ground;IZ)I
set_option maxRecDepth 1000000 in
set_option maxHeartbeats 8000000 in
theorem t_27_0 (call : Nat → List Value → Sto → Option Rr) (again : Nat → j_L → List Value → Sto → Option Rr) (σ : Sto) (v0 : Nat) (v1 : Nat) (v2 : Int32) (v3 : Int32) :
    j_seg k_27 h_27 call again 2000 0 [some (.ref v0), some (.ref v1), some (.int v2), some (.int v3), none, none, none, none, none, none, none, none, none, none, none, none] [] σ =
    j_oc σ 0 v0 (j_c1 call 21 [.ref v0, .int v2] σ (fun x2 τ1 =>
    if x2 = (j_k (-9)) then (some (some (.int (j_k (-9))), τ1))
    else j_gP τ1 0 v0 1 (fun a3 =>
    j_ia τ1 a3 v2 (
    j_gP τ1 1 v1 1 (fun a4 =>
    j_ia τ1 a4 x2 (
    j_gP τ1 1 v1 1 (fun a5 =>
    j_ia τ1 a5 (s_I τ1 a3 v2.toNatClampNeg) (
    j_gP τ1 1 v1 2 (fun a6 =>
    j_ia τ1 a6 x2 (
    j_gP τ1 1 v1 2 (fun a7 =>
    j_ia τ1 a7 (s_I τ1 a3 v2.toNatClampNeg) (
    j_oc τ1 0 v0 (j_c1 call 10 [.ref v0, .int v2] τ1 (fun x9 τ8 =>
    if x9 = 0 then (if (j_k 1) < ((j_abs ((s_I τ1 a4 x2.toNatClampNeg) - (s_I τ1 a5 (s_I τ1 a3 v2.toNatClampNeg).toNatClampNeg))) + (j_abs ((s_I τ1 a6 x2.toNatClampNeg) - (s_I τ1 a7 (s_I τ1 a3 v2.toNatClampNeg).toNatClampNeg)))) then (again 112 [some (.ref v0), some (.ref v1), some (.int v2), some (.int v3), some (.int x2), some (.int (s_I τ1 a3 v2.toNatClampNeg)), some (.int ((s_I τ1 a4 x2.toNatClampNeg) - (s_I τ1 a5 (s_I τ1 a3 v2.toNatClampNeg).toNatClampNeg))), some (.int ((s_I τ1 a6 x2.toNatClampNeg) - (s_I τ1 a7 (s_I τ1 a3 v2.toNatClampNeg).toNatClampNeg))), some (.int ((j_abs ((s_I τ1 a4 x2.toNatClampNeg) - (s_I τ1 a5 (s_I τ1 a3 v2.toNatClampNeg).toNatClampNeg))) + (j_abs ((s_I τ1 a6 x2.toNatClampNeg) - (s_I τ1 a7 (s_I τ1 a3 v2.toNatClampNeg).toNatClampNeg))))), some (.int x9), none, none, none, none, none, none] [] τ8)
     else some (some (.int (j_k (-9))), τ8))
    else j_gP τ8 0 v0 0 (fun a10 =>
    j_ia τ8 a10 v2 (
    if (s_I τ8 a10 v2.toNatClampNeg) = (j_k 5) then (if ((j_abs ((s_I τ1 a4 x2.toNatClampNeg) - (s_I τ1 a5 (s_I τ1 a3 v2.toNatClampNeg).toNatClampNeg))) + (j_abs ((s_I τ1 a6 x2.toNatClampNeg) - (s_I τ1 a7 (s_I τ1 a3 v2.toNatClampNeg).toNatClampNeg)))) < (j_k 3) then (again 112 [some (.ref v0), some (.ref v1), some (.int v2), some (.int v3), some (.int x2), some (.int (s_I τ1 a3 v2.toNatClampNeg)), some (.int ((s_I τ1 a4 x2.toNatClampNeg) - (s_I τ1 a5 (s_I τ1 a3 v2.toNatClampNeg).toNatClampNeg))), some (.int ((s_I τ1 a6 x2.toNatClampNeg) - (s_I τ1 a7 (s_I τ1 a3 v2.toNatClampNeg).toNatClampNeg))), some (.int ((j_abs ((s_I τ1 a4 x2.toNatClampNeg) - (s_I τ1 a5 (s_I τ1 a3 v2.toNatClampNeg).toNatClampNeg))) + (j_abs ((s_I τ1 a6 x2.toNatClampNeg) - (s_I τ1 a7 (s_I τ1 a3 v2.toNatClampNeg).toNatClampNeg))))), some (.int x9), none, none, none, none, none, none] [] τ8)
     else some (some (.int (j_k (-9))), τ8))
    else again 112 [some (.ref v0), some (.ref v1), some (.int v2), some (.int v3), some (.int x2), some (.int (s_I τ1 a3 v2.toNatClampNeg)), some (.int ((s_I τ1 a4 x2.toNatClampNeg) - (s_I τ1 a5 (s_I τ1 a3 v2.toNatClampNeg).toNatClampNeg))), some (.int ((s_I τ1 a6 x2.toNatClampNeg) - (s_I τ1 a7 (s_I τ1 a3 v2.toNatClampNeg).toNatClampNeg))), some (.int ((j_abs ((s_I τ1 a4 x2.toNatClampNeg) - (s_I τ1 a5 (s_I τ1 a3 v2.toNatClampNeg).toNatClampNeg))) + (j_abs ((s_I τ1 a6 x2.toNatClampNeg) - (s_I τ1 a7 (s_I τ1 a3 v2.toNatClampNeg).toNatClampNeg))))), some (.int x9), none, none, none, none, none, none] [] τ8)))))))))))))))) := rfl

set_option maxRecDepth 1000000 in
set_option maxHeartbeats 8000000 in
theorem t_27_112 (call : Nat → List Value → Sto → Option Rr) (again : Nat → j_L → List Value → Sto → Option Rr) (σ : Sto) (v0 : Nat) (v1 : Nat) (v2 : Int32) (v3 : Int32) (v4 : Int32) (v5 : Int32) (v6 : Int32) (v7 : Int32) (v8 : Int32) (v9 : Int32) :
    j_seg k_27 h_27 call again 2000 112 [some (.ref v0), some (.ref v1), some (.int v2), some (.int v3), some (.int v4), some (.int v5), some (.int v6), some (.int v7), some (.int v8), some (.int v9), none, none, none, none, none, none] [] σ =
    if (j_abs v6) < (j_abs v7) then (again 132 [some (.ref v0), some (.ref v1), some (.int v2), some (.int v3), some (.int v4), some (.int v5), some (.int v6), some (.int v7), some (.int v8), some (.int v9), some (.int (j_k 0)), none, none, none, none, none] [] σ)
    else again 132 [some (.ref v0), some (.ref v1), some (.int v2), some (.int v3), some (.int v4), some (.int v5), some (.int v6), some (.int v7), some (.int v8), some (.int v9), some (.int (j_k 1)), none, none, none, none, none] [] σ := rfl

set_option maxRecDepth 1000000 in
set_option maxHeartbeats 8000000 in
theorem t_27_132 (call : Nat → List Value → Sto → Option Rr) (again : Nat → j_L → List Value → Sto → Option Rr) (σ : Sto) (v0 : Nat) (v1 : Nat) (v2 : Int32) (v3 : Int32) (v4 : Int32) (v5 : Int32) (v6 : Int32) (v7 : Int32) (v8 : Int32) (v9 : Int32) (v10 : Int32) :
    j_seg k_27 h_27 call again 2000 132 [some (.ref v0), some (.ref v1), some (.int v2), some (.int v3), some (.int v4), some (.int v5), some (.int v6), some (.int v7), some (.int v8), some (.int v9), some (.int v10), none, none, none, none, none] [] σ =
    again 135 [some (.ref v0), some (.ref v1), some (.int v2), some (.int v3), some (.int v4), some (.int v5), some (.int v6), some (.int v7), some (.int v8), some (.int v9), some (.int v10), some (.int (j_k 0)), none, none, none, none] [] σ := rfl

set_option maxRecDepth 1000000 in
set_option maxHeartbeats 8000000 in
theorem t_27_135 (call : Nat → List Value → Sto → Option Rr) (again : Nat → j_L → List Value → Sto → Option Rr) (σ : Sto) (v0 : Nat) (v1 : Nat) (v2 : Int32) (v3 : Int32) (v4 : Int32) (v5 : Int32) (v6 : Int32) (v7 : Int32) (v8 : Int32) (v9 : Int32) (v10 : Int32) (v11 : Int32) :
    j_seg k_27 h_27 call again 2000 135 [some (.ref v0), some (.ref v1), some (.int v2), some (.int v3), some (.int v4), some (.int v5), some (.int v6), some (.int v7), some (.int v8), some (.int v9), some (.int v10), some (.int v11), none, none, none, none] [] σ =
    if v11 < (j_k 2) then (if v10 = 0 then (again 155 [some (.ref v0), some (.ref v1), some (.int v2), some (.int v3), some (.int v4), some (.int v5), some (.int v6), some (.int v7), some (.int v8), some (.int v9), some (.int v10), some (.int v11), some (.int v7), none, none, none] [] σ)
     else again 155 [some (.ref v0), some (.ref v1), some (.int v2), some (.int v3), some (.int v4), some (.int v5), some (.int v6), some (.int v7), some (.int v8), some (.int v9), some (.int v10), some (.int v11), some (.int v6), none, none, none] [] σ)
    else some (some (.int (j_k (-9))), σ) := rfl

set_option maxRecDepth 1000000 in
set_option maxHeartbeats 8000000 in
theorem t_27_155 (call : Nat → List Value → Sto → Option Rr) (again : Nat → j_L → List Value → Sto → Option Rr) (σ : Sto) (v0 : Nat) (v1 : Nat) (v2 : Int32) (v3 : Int32) (v4 : Int32) (v5 : Int32) (v6 : Int32) (v7 : Int32) (v8 : Int32) (v9 : Int32) (v10 : Int32) (v11 : Int32) (v12 : Int32) :
    j_seg k_27 h_27 call again 2000 155 [some (.ref v0), some (.ref v1), some (.int v2), some (.int v3), some (.int v4), some (.int v5), some (.int v6), some (.int v7), some (.int v8), some (.int v9), some (.int v10), some (.int v11), some (.int v12), none, none, none] [] σ =
    if v12 = 0 then (again 237 [some (.ref v0), some (.ref v1), some (.int v2), some (.int v3), some (.int v4), some (.int v5), some (.int v6), some (.int v7), some (.int v8), some (.int v9), some (.int v10), some (.int v11), some (.int v12), none, none, none] [] σ)
    else if 0 < v12 then (if (j_k 1) = v9 then (again 182 [some (.ref v0), some (.ref v1), some (.int v2), some (.int v3), some (.int v4), some (.int v5), some (.int v6), some (.int v7), some (.int v8), some (.int v9), some (.int v10), some (.int v11), some (.int v12), some (.int (j_k 0)), none, none] [] σ)
     else again 182 [some (.ref v0), some (.ref v1), some (.int v2), some (.int v3), some (.int v4), some (.int v5), some (.int v6), some (.int v7), some (.int v8), some (.int v9), some (.int v10), some (.int v11), some (.int v12), some (.int (j_k 1)), none, none] [] σ)
    else if (j_k 0) = v9 then (again 182 [some (.ref v0), some (.ref v1), some (.int v2), some (.int v3), some (.int v4), some (.int v5), some (.int v6), some (.int v7), some (.int v8), some (.int v9), some (.int v10), some (.int v11), some (.int v12), some (.int (j_k 0)), none, none] [] σ)
    else again 182 [some (.ref v0), some (.ref v1), some (.int v2), some (.int v3), some (.int v4), some (.int v5), some (.int v6), some (.int v7), some (.int v8), some (.int v9), some (.int v10), some (.int v11), some (.int v12), some (.int (j_k 1)), none, none] [] σ := rfl

set_option maxRecDepth 1000000 in
set_option maxHeartbeats 8000000 in
theorem t_27_182 (call : Nat → List Value → Sto → Option Rr) (again : Nat → j_L → List Value → Sto → Option Rr) (σ : Sto) (v0 : Nat) (v1 : Nat) (v2 : Int32) (v3 : Int32) (v4 : Int32) (v5 : Int32) (v6 : Int32) (v7 : Int32) (v8 : Int32) (v9 : Int32) (v10 : Int32) (v11 : Int32) (v12 : Int32) (v13 : Int32) :
    j_seg k_27 h_27 call again 2000 182 [some (.ref v0), some (.ref v1), some (.int v2), some (.int v3), some (.int v4), some (.int v5), some (.int v6), some (.int v7), some (.int v8), some (.int v9), some (.int v10), some (.int v11), some (.int v12), some (.int v13), none, none] [] σ =
    if v10 = 0 then (if v13 = 0 then (again 212 [some (.ref v0), some (.ref v1), some (.int v2), some (.int v3), some (.int v4), some (.int v5), some (.int v6), some (.int v7), some (.int v8), some (.int v9), some (.int v10), some (.int v11), some (.int v12), some (.int v13), some (.int (j_k 0)), none] [] σ)
     else again 212 [some (.ref v0), some (.ref v1), some (.int v2), some (.int v3), some (.int v4), some (.int v5), some (.int v6), some (.int v7), some (.int v8), some (.int v9), some (.int v10), some (.int v11), some (.int v12), some (.int v13), some (.int (j_k 2)), none] [] σ)
    else if v13 = 0 then (again 212 [some (.ref v0), some (.ref v1), some (.int v2), some (.int v3), some (.int v4), some (.int v5), some (.int v6), some (.int v7), some (.int v8), some (.int v9), some (.int v10), some (.int v11), some (.int v12), some (.int v13), some (.int (j_k 3)), none] [] σ)
    else again 212 [some (.ref v0), some (.ref v1), some (.int v2), some (.int v3), some (.int v4), some (.int v5), some (.int v6), some (.int v7), some (.int v8), some (.int v9), some (.int v10), some (.int v11), some (.int v12), some (.int v13), some (.int (j_k 1)), none] [] σ := rfl

set_option maxRecDepth 1000000 in
set_option maxHeartbeats 8000000 in
theorem t_27_212 (call : Nat → List Value → Sto → Option Rr) (again : Nat → j_L → List Value → Sto → Option Rr) (σ : Sto) (v0 : Nat) (v1 : Nat) (v2 : Int32) (v3 : Int32) (v4 : Int32) (v5 : Int32) (v6 : Int32) (v7 : Int32) (v8 : Int32) (v9 : Int32) (v10 : Int32) (v11 : Int32) (v12 : Int32) (v13 : Int32) (v14 : Int32) :
    j_seg k_27 h_27 call again 2000 212 [some (.ref v0), some (.ref v1), some (.int v2), some (.int v3), some (.int v4), some (.int v5), some (.int v6), some (.int v7), some (.int v8), some (.int v9), some (.int v10), some (.int v11), some (.int v12), some (.int v13), some (.int v14), none] [] σ =
    j_oc σ 1 v1 (j_c1 call 38 [.ref v1, .int v5, .int v14] σ (fun x2 τ1 =>
    j_oc τ1 0 v0 (j_c1 call 22 [.ref v0, .ref v1, .int v2, .int x2, .int v3] τ1 (fun x4 τ3 =>
    if x4 = 0 then (again 237 [some (.ref v0), some (.ref v1), some (.int v2), some (.int v3), some (.int v4), some (.int v5), some (.int v6), some (.int v7), some (.int v8), some (.int v9), some (.int v10), some (.int v11), some (.int v12), none, none, none] [] τ3)
    else some (some (.int x2), τ3))))) := rfl

set_option maxRecDepth 1000000 in
set_option maxHeartbeats 8000000 in
theorem t_27_237 (call : Nat → List Value → Sto → Option Rr) (again : Nat → j_L → List Value → Sto → Option Rr) (σ : Sto) (v0 : Nat) (v1 : Nat) (v2 : Int32) (v3 : Int32) (v4 : Int32) (v5 : Int32) (v6 : Int32) (v7 : Int32) (v8 : Int32) (v9 : Int32) (v10 : Int32) (v11 : Int32) (v12 : Int32) :
    j_seg k_27 h_27 call again 2000 237 [some (.ref v0), some (.ref v1), some (.int v2), some (.int v3), some (.int v4), some (.int v5), some (.int v6), some (.int v7), some (.int v8), some (.int v9), some (.int v10), some (.int v11), some (.int v12), none, none, none] [] σ =
    if v10 = 0 then (again 135 [some (.ref v0), some (.ref v1), some (.int v2), some (.int v3), some (.int v4), some (.int v5), some (.int v6), some (.int v7), some (.int v8), some (.int v9), some (.int (j_k 1)), some (.int (v11 + (j_k 1))), none, none, none, none] [] σ)
    else again 135 [some (.ref v0), some (.ref v1), some (.int v2), some (.int v3), some (.int v4), some (.int v5), some (.int v6), some (.int v7), some (.int v8), some (.int v9), some (.int (j_k 0)), some (.int (v11 + (j_k 1))), none, none, none, none] [] σ := rfl

-- LastStirred$Flock.runOut(LLastStirred$Ground;)Z
set_option maxRecDepth 1000000 in
set_option maxHeartbeats 8000000 in
theorem t_28_0 (call : Nat → List Value → Sto → Option Rr) (again : Nat → j_L → List Value → Sto → Option Rr) (σ : Sto) (v0 : Nat) (v1 : Nat) :
    j_seg k_28 h_28 call again 2000 0 [some (.ref v0), some (.ref v1), none, none] [] σ =
    again 4 [some (.ref v0), some (.ref v1), some (.int (j_k 0)), some (.int (j_k 0))] [] σ := rfl

set_option maxRecDepth 1000000 in
set_option maxHeartbeats 8000000 in
theorem t_28_4 (call : Nat → List Value → Sto → Option Rr) (again : Nat → j_L → List Value → Sto → Option Rr) (σ : Sto) (v0 : Nat) (v1 : Nat) (v2 : Int32) (v3 : Int32) :
    j_seg k_28 h_28 call again 2000 4 [some (.ref v0), some (.ref v1), some (.int v2), some (.int v3)] [] σ =
    if v3 < (j_k 40) then (if v2 < (j_k 2) then (j_oc σ 0 v0 (j_c1 call 26 [.ref v0, .ref v1] σ (fun x2 τ1 =>
      if x2 = 0 then (again 4 [some (.ref v0), some (.ref v1), some (.int (v2 + (j_k 1))), some (.int (v3 + (j_k 1)))] [] τ1)
      else again 4 [some (.ref v0), some (.ref v1), some (.int (j_k 0)), some (.int (v3 + (j_k 1)))] [] τ1)))
     else if v2 = (j_k 2) then (if (j_k 1) = 0 ∨ (j_k 1) = 1 then some (some (.int (j_k 1)), σ) else none)
     else if (j_k 0) = 0 ∨ (j_k 0) = 1 then some (some (.int (j_k 0)), σ) else none)
    else if v2 = (j_k 2) then (if (j_k 1) = 0 ∨ (j_k 1) = 1 then some (some (.int (j_k 1)), σ) else none)
    else if (j_k 0) = 0 ∨ (j_k 0) = 1 then some (some (.int (j_k 0)), σ) else none := rfl

-- LastStirred$Flock.driveBy(LLastStirred$Ground;I)Z
set_option maxRecDepth 1000000 in
set_option maxHeartbeats 8000000 in
theorem t_29_0 (call : Nat → List Value → Sto → Option Rr) (again : Nat → j_L → List Value → Sto → Option Rr) (σ : Sto) (v0 : Nat) (v1 : Nat) (v2 : Int32) :
    j_seg k_29 h_29 call again 2000 0 [some (.ref v0), some (.ref v1), some (.int v2)] [] σ =
    if (j_k 4) = 0 then none else
    if (j_k 4) = 0 then none else
    j_oc σ 0 v0 (j_c1 call 25 [.ref v0, .ref v1, .int (v2 / (j_k 4)), .int (v2 - v2 / (j_k 4) * (j_k 4))] σ (fun x2 τ1 =>
    if x2 = (j_k (-9)) then (if (j_k 0) = 0 ∨ (j_k 0) = 1 then some (some (.int (j_k 0)), τ1) else none)
    else j_oc τ1 0 v0 (j_c1 call 28 [.ref v0, .ref v1] τ1 (fun x4 τ3 =>
    if (j_k 1) = 0 ∨ (j_k 1) = 1 then some (some (.int (j_k 1)), τ3) else none)))) := rfl

-- LastStirred$Ground.spread(II)V
set_option maxRecDepth 1000000 in
set_option maxHeartbeats 8000000 in
theorem t_33_0 (call : Nat → List Value → Sto → Option Rr) (again : Nat → j_L → List Value → Sto → Option Rr) (σ : Sto) (v0 : Nat) (v1 : Int32) (v2 : Int32) :
    j_seg k_33 h_33 call again 2000 0 [some (.ref v0), some (.int v1), some (.int v2), none, none] [] σ =
    if v0 < j_b then j_oc σ 1 v0 (let τ1 : Sto := s_uI σ v0 3 v1;
    if v0 < j_b then j_oc τ1 1 v0 (let τ2 : Sto := s_uI τ1 v0 4 v2;
    if v0 < j_b then j_oc τ2 1 v0 (let τ3 : Sto := s_uI τ2 v0 5 (j_k 0);
    again 17 [some (.ref v0), some (.int v1), some (.int v2), some (.int (j_k 0)), none] [] τ3) else none) else none) else none := rfl

set_option maxRecDepth 1000000 in
set_option maxHeartbeats 8000000 in
theorem t_33_17 (call : Nat → List Value → Sto → Option Rr) (again : Nat → j_L → List Value → Sto → Option Rr) (σ : Sto) (v0 : Nat) (v1 : Int32) (v2 : Int32) (v3 : Int32) :
    j_seg k_33 h_33 call again 2000 17 [some (.ref v0), some (.int v1), some (.int v2), some (.int v3), none] [] σ =
    if v3 < v2 then (again 25 [some (.ref v0), some (.int v1), some (.int v2), some (.int v3), some (.int (j_k 0))] [] σ)
    else some (none, σ) := rfl

set_option maxRecDepth 1000000 in
set_option maxHeartbeats 8000000 in
theorem t_33_25 (call : Nat → List Value → Sto → Option Rr) (again : Nat → j_L → List Value → Sto → Option Rr) (σ : Sto) (v0 : Nat) (v1 : Int32) (v2 : Int32) (v3 : Int32) (v4 : Int32) :
    j_seg k_33 h_33 call again 2000 25 [some (.ref v0), some (.int v1), some (.int v2), some (.int v3), some (.int v4)] [] σ =
    if v4 < v1 then (j_oc σ 1 v0 (if (s_I σ v0 5) < (j_k 30) then (j_gP σ 1 v0 1 (fun a1 =>
      j_oc σ 1 v0 (j_is σ a1 (s_I σ v0 5) (let τ2 : Sto := s_uI σ a1 (s_I σ v0 5).toNatClampNeg v4;
      j_gP τ2 1 v0 2 (fun a3 =>
      j_oc τ2 1 v0 (j_is τ2 a3 (s_I τ2 v0 5) (let τ4 : Sto := s_uI τ2 a3 (s_I τ2 v0 5).toNatClampNeg v3;
      j_oc τ4 1 v0 (if v0 < j_b then j_oc τ4 1 v0 (let τ5 : Sto := s_uI τ4 v0 5 ((s_I τ4 v0 5) + (j_k 1));
      again 25 [some (.ref v0), some (.int v1), some (.int v2), some (.int v3), some (.int (v4 + (j_k 1)))] [] τ5) else none))))))))
     else again 17 [some (.ref v0), some (.int v1), some (.int v2), some (.int (v3 + (j_k 1))), none] [] σ))
    else again 17 [some (.ref v0), some (.int v1), some (.int v2), some (.int (v3 + (j_k 1))), none] [] σ := rfl

-- LastStirred$Ground.take(LLastStirred$Ground;)V
set_option maxRecDepth 1000000 in
set_option maxHeartbeats 8000000 in
theorem t_34_0 (call : Nat → List Value → Sto → Option Rr) (again : Nat → j_L → List Value → Sto → Option Rr) (σ : Sto) (v0 : Nat) (v1 : Nat) :
    j_seg k_34 h_34 call again 2000 0 [some (.ref v0), some (.ref v1)] [] σ =
    j_oc σ 1 v1 (j_oc σ 1 v1 (j_oc σ 1 v0 (j_c0 call 33 [.ref v0, .int (s_I σ v1 3), .int (s_I σ v1 4)] σ (fun τ1 =>
    j_gP τ1 1 v1 0 (fun a2 =>
    j_gP τ1 1 v0 0 (fun a3 =>
    j_ac τ1 a2 (j_k 0) a3 (j_k 0) (j_k 30) (fun τ4 =>
    some (none, τ4)))))))) := rfl

-- LastStirred$Ground.has(I)Z
set_option maxRecDepth 1000000 in
set_option maxHeartbeats 8000000 in
theorem t_35_0 (call : Nat → List Value → Sto → Option Rr) (again : Nat → j_L → List Value → Sto → Option Rr) (σ : Sto) (v0 : Nat) (v1 : Int32) :
    j_seg k_35 h_35 call again 2000 0 [some (.ref v0), some (.int v1)] [] σ =
    if v1 < 0 then (if (j_k 0) = 0 ∨ (j_k 0) = 1 then some (some (.int (j_k 0)), σ) else none)
    else j_oc σ 1 v0 (if v1 < (s_I σ v0 5) then (if (j_k 1) = 0 ∨ (j_k 1) = 1 then some (some (.int (j_k 1)), σ) else none)
    else if (j_k 0) = 0 ∨ (j_k 0) = 1 then some (some (.int (j_k 0)), σ) else none) := rfl

-- LastStirred$Ground.isOpen(I)Z
set_option maxRecDepth 1000000 in
set_option maxHeartbeats 8000000 in
theorem t_36_0 (call : Nat → List Value → Sto → Option Rr) (again : Nat → j_L → List Value → Sto → Option Rr) (σ : Sto) (v0 : Nat) (v1 : Int32) :
    j_seg k_36 h_36 call again 2000 0 [some (.ref v0), some (.int v1)] [] σ =
    j_gP σ 1 v0 0 (fun a1 =>
    j_ia σ a1 v1 (
    if (s_I σ a1 v1.toNatClampNeg) = (j_k 1) then (if (j_k 0) = 0 ∨ (j_k 0) = 1 then some (some (.int (j_k 0)), σ) else none)
    else j_gP σ 1 v0 0 (fun a2 =>
    j_ia σ a2 v1 (
    if (s_I σ a2 v1.toNatClampNeg) = (j_k 2) then (if (j_k 0) = 0 ∨ (j_k 0) = 1 then some (some (.int (j_k 0)), σ) else none)
    else if (j_k 1) = 0 ∨ (j_k 1) = 1 then some (some (.int (j_k 1)), σ) else none)))) := rfl

-- LastStirred$Ground.off(II)I
set_option maxRecDepth 1000000 in
set_option maxHeartbeats 8000000 in
theorem t_37_0 (call : Nat → List Value → Sto → Option Rr) (again : Nat → j_L → List Value → Sto → Option Rr) (σ : Sto) (v0 : Nat) (v1 : Int32) (v2 : Int32) :
    j_seg k_37 h_37 call again 2000 0 [some (.ref v0), some (.int v1), some (.int v2)] [] σ =
    j_gP σ 1 v0 1 (fun a1 =>
    j_ia σ a1 v1 (
    j_gP σ 1 v0 1 (fun a2 =>
    j_ia σ a2 v2 (
    j_gP σ 1 v0 2 (fun a3 =>
    j_ia σ a3 v1 (
    j_gP σ 1 v0 2 (fun a4 =>
    j_ia σ a4 v2 (
    some (some (.int ((j_abs ((s_I σ a1 v1.toNatClampNeg) - (s_I σ a2 v2.toNatClampNeg))) + (j_abs ((s_I σ a3 v1.toNatClampNeg) - (s_I σ a4 v2.toNatClampNeg))))), σ))))))))) := rfl

-- LastStirred$Ground.beside(II)I
set_option maxRecDepth 1000000 in
set_option maxHeartbeats 8000000 in
theorem t_38_0 (call : Nat → List Value → Sto → Option Rr) (again : Nat → j_L → List Value → Sto → Option Rr) (σ : Sto) (v0 : Nat) (v1 : Int32) (v2 : Int32) :
    j_seg k_38 h_38 call again 2000 0 [some (.ref v0), some (.int v1), some (.int v2), none, none] [] σ =
    j_gP σ 1 v0 1 (fun a1 =>
    j_ia σ a1 v1 (
    j_ia σ (j_b + 2) v2 (
    j_gP σ 1 v0 2 (fun a2 =>
    j_ia σ a2 v1 (
    j_ia σ (j_b + 3) v2 (
    if ((s_I σ a1 v1.toNatClampNeg) + (s_I σ (j_b + 2) v2.toNatClampNeg)) < 0 then (some (some (.int (j_k (-9))), σ))
    else j_oc σ 1 v0 (if ((s_I σ a1 v1.toNatClampNeg) + (s_I σ (j_b + 2) v2.toNatClampNeg)) < (s_I σ v0 3) then (if ((s_I σ a2 v1.toNatClampNeg) + (s_I σ (j_b + 3) v2.toNatClampNeg)) < 0 then (some (some (.int (j_k (-9))), σ))
     else j_oc σ 1 v0 (if ((s_I σ a2 v1.toNatClampNeg) + (s_I σ (j_b + 3) v2.toNatClampNeg)) < (s_I σ v0 4) then (j_oc σ 1 v0 (some (some (.int ((((s_I σ a2 v1.toNatClampNeg) + (s_I σ (j_b + 3) v2.toNatClampNeg)) * (s_I σ v0 3)) + ((s_I σ a1 v1.toNatClampNeg) + (s_I σ (j_b + 2) v2.toNatClampNeg)))), σ)))
     else some (some (.int (j_k (-9))), σ)))
    else some (some (.int (j_k (-9))), σ)))))))) := rfl

-- LastStirred$Ground.reachFrom(IZ)I
set_option maxRecDepth 1000000 in
set_option maxHeartbeats 8000000 in
theorem t_40_0 (call : Nat → List Value → Sto → Option Rr) (again : Nat → j_L → List Value → Sto → Option Rr) (σ : Sto) (v0 : Nat) (v1 : Int32) (v2 : Int32) :
    j_seg k_40 h_40 call again 2000 0 [some (.ref v0), some (.int v1), some (.int v2), none, none, none, none] [] σ =
    j_oc σ 1 v0 (j_c1 call 36 [.ref v0, .int v1] σ (fun x2 τ1 =>
    if x2 = 0 then (some (some (.int (j_k 0)), τ1))
    else again 20 [some (.ref v0), some (.int v1), some (.int v2), some (.int ((j_k 1) <<< (v1 &&& 31))), some (.int (j_k 0)), some (.int (j_k 0)), none] [] τ1)) := rfl

set_option maxRecDepth 1000000 in
set_option maxHeartbeats 8000000 in
theorem t_40_20 (call : Nat → List Value → Sto → Option Rr) (again : Nat → j_L → List Value → Sto → Option Rr) (σ : Sto) (v0 : Nat) (v1 : Int32) (v2 : Int32) (v3 : Int32) (v4 : Int32) (v5 : Int32) :
    j_seg k_40 h_40 call again 2000 20 [some (.ref v0), some (.int v1), some (.int v2), some (.int v3), some (.int v4), some (.int v5), none] [] σ =
    j_oc σ 1 v0 (if v5 < (s_I σ v0 5) then (if v3 = v4 then (some (some (.int v3), σ))
     else again 41 [some (.ref v0), some (.int v1), some (.int v2), some (.int v3), some (.int v3), some (.int v5), some (.int (j_k 0))] [] σ)
    else some (some (.int v3), σ)) := rfl

set_option maxRecDepth 1000000 in
set_option maxHeartbeats 8000000 in
theorem t_40_41 (call : Nat → List Value → Sto → Option Rr) (again : Nat → j_L → List Value → Sto → Option Rr) (σ : Sto) (v0 : Nat) (v1 : Int32) (v2 : Int32) (v3 : Int32) (v4 : Int32) (v5 : Int32) (v6 : Int32) :
    j_seg k_40 h_40 call again 2000 41 [some (.ref v0), some (.int v1), some (.int v2), some (.int v3), some (.int v4), some (.int v5), some (.int v6)] [] σ =
    j_oc σ 1 v0 (if v6 < (s_I σ v0 5) then (if ((v3 >>> (v6 &&& 31)) &&& (j_k 1)) = (j_k 1) then (j_oc σ 1 v0 (j_c1 call 41 [.ref v0, .int v6, .int v2] σ (fun x2 τ1 =>
      again 41 [some (.ref v0), some (.int v1), some (.int v2), some (.int (v3 ||| x2)), some (.int v4), some (.int v5), some (.int (v6 + (j_k 1)))] [] τ1)))
     else again 41 [some (.ref v0), some (.int v1), some (.int v2), some (.int v3), some (.int v4), some (.int v5), some (.int (v6 + (j_k 1)))] [] σ)
    else again 20 [some (.ref v0), some (.int v1), some (.int v2), some (.int v3), some (.int v4), some (.int (v5 + (j_k 1))), none] [] σ) := rfl

-- LastStirred$Ground.openBeside(IZ)I
set_option maxRecDepth 1000000 in
set_option maxHeartbeats 8000000 in
theorem t_41_0 (call : Nat → List Value → Sto → Option Rr) (again : Nat → j_L → List Value → Sto → Option Rr) (σ : Sto) (v0 : Nat) (v1 : Int32) (v2 : Int32) :
    j_seg k_41 h_41 call again 2000 0 [some (.ref v0), some (.int v1), some (.int v2), none, none, none] [] σ =
    again 5 [some (.ref v0), some (.int v1), some (.int v2), some (.int (j_k 0)), some (.int (j_k 0)), none] [] σ := rfl

set_option maxRecDepth 1000000 in
set_option maxHeartbeats 8000000 in
theorem t_41_5 (call : Nat → List Value → Sto → Option Rr) (again : Nat → j_L → List Value → Sto → Option Rr) (σ : Sto) (v0 : Nat) (v1 : Int32) (v2 : Int32) (v3 : Int32) (v4 : Int32) :
    j_seg k_41 h_41 call again 2000 5 [some (.ref v0), some (.int v1), some (.int v2), some (.int v3), some (.int v4), none] [] σ =
    if v4 < (j_k 4) then (j_oc σ 1 v0 (j_c1 call 38 [.ref v0, .int v1, .int v4] σ (fun x2 τ1 =>
     if x2 = (j_k (-9)) then (again 5 [some (.ref v0), some (.int v1), some (.int v2), some (.int v3), some (.int (v4 + (j_k 1))), none] [] τ1)
     else j_oc τ1 1 v0 (j_c1 call 36 [.ref v0, .int x2] τ1 (fun x4 τ3 =>
     if x4 = 0 then (again 5 [some (.ref v0), some (.int v1), some (.int v2), some (.int v3), some (.int (v4 + (j_k 1))), none] [] τ3)
     else if v2 = 0 then (j_gP τ3 1 v0 0 (fun a5 =>
      j_ia τ3 a5 x2 (
      if (s_I τ3 a5 x2.toNatClampNeg) = (j_k 4) then (again 5 [some (.ref v0), some (.int v1), some (.int v2), some (.int v3), some (.int (v4 + (j_k 1))), none] [] τ3)
      else again 5 [some (.ref v0), some (.int v1), some (.int v2), some (.int (v3 ||| ((j_k 1) <<< (x2 &&& 31)))), some (.int (v4 + (j_k 1))), none] [] τ3)))
     else again 5 [some (.ref v0), some (.int v1), some (.int v2), some (.int (v3 ||| ((j_k 1) <<< (x2 &&& 31)))), some (.int (v4 + (j_k 1))), none] [] τ3)))))
    else some (some (.int v3), σ) := rfl

-- LastStirred$Reader.readAll([II)I
set_option maxRecDepth 1000000 in
set_option maxHeartbeats 8000000 in
theorem t_43_0 (call : Nat → List Value → Sto → Option Rr) (again : Nat → j_L → List Value → Sto → Option Rr) (σ : Sto) (v0 : Nat) (v1 : Nat) (v2 : Int32) :
    j_seg k_43 h_43 call again 2000 0 [some (.ref v0), some (.ref v1), some (.int v2)] [] σ =
    if v0 < j_b then j_oc σ 2 v0 (let τ1 : Sto := s_uP σ v0 2 (some v1);
    if v0 < j_b then j_oc τ1 2 v0 (let τ2 : Sto := s_uI τ1 v0 3 v2;
    if v0 < j_b then j_oc τ2 2 v0 (let τ3 : Sto := s_uI τ2 v0 4 (j_k 0);
    j_oc τ3 2 v0 (j_c1 call 44 [.ref v0] τ3 (fun x5 τ4 =>
    if x5 = 0 then (j_oc τ4 2 v0 (some (some (.int (s_I τ4 v0 4)), τ4)))
    else j_oc τ4 2 v0 (j_c1 call 45 [.ref v0] τ4 (fun x7 τ6 =>
    if x7 = 0 then (j_oc τ6 2 v0 (some (some (.int (s_I τ6 v0 4)), τ6)))
    else j_oc τ6 2 v0 (j_c1 call 46 [.ref v0] τ6 (fun x9 τ8 =>
    if x9 = 0 then (j_oc τ8 2 v0 (some (some (.int (s_I τ8 v0 4)), τ8)))
    else some (some (.int (j_k (-9))), τ8)))))))) else none) else none) else none := rfl

-- LastStirred$Reader.readSize()Z
set_option maxRecDepth 1000000 in
set_option maxHeartbeats 8000000 in
theorem t_44_0 (call : Nat → List Value → Sto → Option Rr) (again : Nat → j_L → List Value → Sto → Option Rr) (σ : Sto) (v0 : Nat) :
    j_seg k_44 h_44 call again 2000 0 [some (.ref v0), none, none] [] σ =
    j_oc σ 2 v0 (j_c0 call 48 [.ref v0] σ (fun τ1 =>
    j_oc τ1 2 v0 (j_c1 call 49 [.ref v0] τ1 (fun x3 τ2 =>
    if x3 = (j_k 103) then (j_oc τ2 2 v0 (if v0 < j_b then j_oc τ2 2 v0 (let τ4 : Sto := s_uI τ2 v0 4 ((s_I τ2 v0 4) + (j_k 1));
     j_oc τ4 2 v0 (j_c1 call 50 [.ref v0, .int (j_k 2), .int (j_k 6)] τ4 (fun x6 τ5 =>
     if x6 = (j_k (-9)) then (if (j_k 0) = 0 ∨ (j_k 0) = 1 then some (some (.int (j_k 0)), τ5) else none)
     else j_oc τ5 2 v0 (j_c1 call 50 [.ref v0, .int (j_k 1), .int (j_k 5)] τ5 (fun x8 τ7 =>
     if x8 = (j_k (-9)) then (if (j_k 0) = 0 ∨ (j_k 0) = 1 then some (some (.int (j_k 0)), τ7) else none)
     else j_gP τ7 2 v0 0 (fun a9 =>
     j_oc τ7 1 a9 (j_c0 call 33 [.ref a9, .int x6, .int x8] τ7 (fun τ10 =>
     if (j_k 1) = 0 ∨ (j_k 1) = 1 then some (some (.int (j_k 1)), τ10) else none)))))))) else none))
    else if (j_k 0) = 0 ∨ (j_k 0) = 1 then some (some (.int (j_k 0)), τ2) else none)))) := rfl

-- LastStirred$Reader.readCells()Z
set_option maxRecDepth 1000000 in
set_option maxHeartbeats 8000000 in
theorem t_45_0 (call : Nat → List Value → Sto → Option Rr) (again : Nat → j_L → List Value → Sto → Option Rr) (σ : Sto) (v0 : Nat) :
    j_seg k_45 h_45 call again 2000 0 [some (.ref v0), none, none] [] σ =
    again 2 [some (.ref v0), some (.int (j_k 0)), none] [] σ := rfl

set_option maxRecDepth 1000000 in
set_option maxHeartbeats 8000000 in
theorem t_45_2 (call : Nat → List Value → Sto → Option Rr) (again : Nat → j_L → List Value → Sto → Option Rr) (σ : Sto) (v0 : Nat) (v1 : Int32) :
    j_seg k_45 h_45 call again 2000 2 [some (.ref v0), some (.int v1), none] [] σ =
    j_gP σ 2 v0 0 (fun a1 =>
    j_oc σ 1 a1 (if v1 < (s_I σ a1 5) then (j_oc σ 2 v0 (j_c0 call 48 [.ref v0] σ (fun τ2 =>
     j_oc τ2 2 v0 (j_c1 call 49 [.ref v0] τ2 (fun x4 τ3 =>
     j_c1 call 125 [.ref (j_b + 0), .int x4] τ3 (fun x6 τ5 =>
     if x6 = (j_k (-9)) then (if (j_k 0) = 0 ∨ (j_k 0) = 1 then some (some (.int (j_k 0)), τ5) else none)
     else j_gP τ5 2 v0 0 (fun a7 =>
     j_gP τ5 1 a7 0 (fun a8 =>
     j_is τ5 a8 v1 (let τ9 : Sto := s_uI τ5 a8 v1.toNatClampNeg x6;
     j_oc τ9 2 v0 (if v0 < j_b then j_oc τ9 2 v0 (let τ10 : Sto := s_uI τ9 v0 4 ((s_I τ9 v0 4) + (j_k 1));
     again 2 [some (.ref v0), some (.int (v1 + (j_k 1))), none] [] τ10) else none))))))))))
    else if (j_k 1) = 0 ∨ (j_k 1) = 1 then some (some (.int (j_k 1)), σ) else none)) := rfl

-- LastStirred$Reader.readBeasts()Z
set_option maxRecDepth 1000000 in
set_option maxHeartbeats 8000000 in
theorem t_46_0 (call : Nat → List Value → Sto → Option Rr) (again : Nat → j_L → List Value → Sto → Option Rr) (σ : Sto) (v0 : Nat) :
    j_seg k_46 h_46 call again 2000 0 [some (.ref v0), none] [] σ =
    j_gP σ 2 v0 1 (fun a1 =>
    j_oc σ 0 a1 (j_c0 call 1 [.ref a1] σ (fun τ2 =>
    again 9 [some (.ref v0), some (.int (j_k 0))] [] τ2))) := rfl

set_option maxRecDepth 1000000 in
set_option maxHeartbeats 8000000 in
theorem t_46_9 (call : Nat → List Value → Sto → Option Rr) (again : Nat → j_L → List Value → Sto → Option Rr) (σ : Sto) (v0 : Nat) (v1 : Int32) :
    j_seg k_46 h_46 call again 2000 9 [some (.ref v0), some (.int v1)] [] σ =
    if v1 < (j_k 4) then (j_oc σ 2 v0 (j_c0 call 48 [.ref v0] σ (fun τ1 =>
     j_oc τ1 2 v0 (j_oc τ1 2 v0 (if (s_I τ1 v0 4) = (s_I τ1 v0 3) then (if (j_k 1) = 0 ∨ (j_k 1) = 1 then some (some (.int (j_k 1)), τ1) else none)
     else j_oc τ1 2 v0 (j_c1 call 47 [.ref v0] τ1 (fun x3 τ2 =>
     if x3 = 0 then (if (j_k 0) = 0 ∨ (j_k 0) = 1 then some (some (.int (j_k 0)), τ2) else none)
     else again 9 [some (.ref v0), some (.int (v1 + (j_k 1)))] [] τ2)))))))
    else j_oc σ 2 v0 (j_c0 call 48 [.ref v0] σ (fun τ4 =>
    j_oc τ4 2 v0 (j_oc τ4 2 v0 (if (s_I τ4 v0 4) = (s_I τ4 v0 3) then (if (j_k 1) = 0 ∨ (j_k 1) = 1 then some (some (.int (j_k 1)), τ4) else none)
    else if (j_k 0) = 0 ∨ (j_k 0) = 1 then some (some (.int (j_k 0)), τ4) else none)))) := rfl

-- LastStirred$Reader.readBeast()Z
set_option maxRecDepth 1000000 in
set_option maxHeartbeats 8000000 in
theorem t_47_0 (call : Nat → List Value → Sto → Option Rr) (again : Nat → j_L → List Value → Sto → Option Rr) (σ : Sto) (v0 : Nat) :
    j_seg k_47 h_47 call again 2000 0 [some (.ref v0), none, none, none, none] [] σ =
    j_oc σ 2 v0 (j_c1 call 49 [.ref v0] σ (fun x2 τ1 =>
    j_c1 call 125 [.ref (j_b + 1), .int x2] τ1 (fun x4 τ3 =>
    if x4 = (j_k (-9)) then (if (j_k 0) = 0 ∨ (j_k 0) = 1 then some (some (.int (j_k 0)), τ3) else none)
    else j_oc τ3 2 v0 (if v0 < j_b then j_oc τ3 2 v0 (let τ5 : Sto := s_uI τ3 v0 4 ((s_I τ3 v0 4) + (j_k 1));
    j_gP τ5 2 v0 0 (fun a6 =>
    j_oc τ5 1 a6 (j_oc τ5 2 v0 (j_c1 call 50 [.ref v0, .int (j_k 0), .int ((s_I τ5 a6 3) - (j_k 1))] τ5 (fun x8 τ7 =>
    if x8 = (j_k (-9)) then (if (j_k 0) = 0 ∨ (j_k 0) = 1 then some (some (.int (j_k 0)), τ7) else none)
    else j_gP τ7 2 v0 0 (fun a9 =>
    j_oc τ7 1 a9 (j_oc τ7 2 v0 (j_c1 call 50 [.ref v0, .int (j_k 0), .int ((s_I τ7 a9 4) - (j_k 1))] τ7 (fun x11 τ10 =>
    if x11 = (j_k (-9)) then (if (j_k 0) = 0 ∨ (j_k 0) = 1 then some (some (.int (j_k 0)), τ10) else none)
    else j_gP τ10 2 v0 0 (fun a12 =>
    j_oc τ10 1 a12 (j_gP τ10 2 v0 0 (fun a13 =>
    j_oc τ10 1 a13 (j_c1 call 36 [.ref a13, .int ((x11 * (s_I τ10 a12 3)) + x8)] τ10 (fun x15 τ14 =>
    if x15 = 0 then (j_oc τ14 2 v0 (if v0 < j_b then j_oc τ14 2 v0 (let τ16 : Sto := s_uI τ14 v0 4 ((s_I τ14 v0 4) - (j_k 1));
     if (j_k 0) = 0 ∨ (j_k 0) = 1 then some (some (.int (j_k 0)), τ16) else none) else none))
    else j_gP τ14 2 v0 1 (fun a17 =>
    j_oc τ14 0 a17 (j_c1 call 7 [.ref a17, .int ((x11 * (s_I τ10 a12 3)) + x8)] τ14 (fun x19 τ18 =>
    if x19 = 0 then (j_gP τ18 2 v0 1 (fun a20 =>
     j_oc τ18 0 a20 (j_c0 call 2 [.ref a20, .int x4, .int ((x11 * (s_I τ10 a12 3)) + x8)] τ18 (fun τ21 =>
     if (j_k 1) = 0 ∨ (j_k 1) = 1 then some (some (.int (j_k 1)), τ21) else none))))
    else j_oc τ18 2 v0 (if v0 < j_b then j_oc τ18 2 v0 (let τ22 : Sto := s_uI τ18 v0 4 ((s_I τ18 v0 4) - (j_k 1));
    if (j_k 0) = 0 ∨ (j_k 0) = 1 then some (some (.int (j_k 0)), τ22) else none) else none)))))))))))))))))) else none)))) := rfl

-- LastStirred$Reader.skipBlanks()V
set_option maxRecDepth 1000000 in
set_option maxHeartbeats 8000000 in
theorem t_48_0 (call : Nat → List Value → Sto → Option Rr) (again : Nat → j_L → List Value → Sto → Option Rr) (σ : Sto) (v0 : Nat) :
    j_seg k_48 h_48 call again 2000 0 [some (.ref v0)] [] σ =
    j_oc σ 2 v0 (j_oc σ 2 v0 (if (s_I σ v0 4) < (s_I σ v0 3) then (j_gP σ 2 v0 2 (fun a1 =>
     j_oc σ 2 v0 (j_ia σ a1 (s_I σ v0 4) (
     if (s_I σ a1 (s_I σ v0 4).toNatClampNeg) = (j_k 32) then (j_oc σ 2 v0 (if v0 < j_b then j_oc σ 2 v0 (let τ2 : Sto := s_uI σ v0 4 ((s_I σ v0 4) + (j_k 1));
      again 0 [some (.ref v0)] [] τ2) else none))
     else some (none, σ)))))
    else some (none, σ))) := rfl

-- LastStirred$Reader.sign()I
set_option maxRecDepth 1000000 in
set_option maxHeartbeats 8000000 in
theorem t_49_0 (call : Nat → List Value → Sto → Option Rr) (again : Nat → j_L → List Value → Sto → Option Rr) (σ : Sto) (v0 : Nat) :
    j_seg k_49 h_49 call again 2000 0 [some (.ref v0)] [] σ =
    j_oc σ 2 v0 (j_oc σ 2 v0 (if (s_I σ v0 4) < (s_I σ v0 3) then (j_gP σ 2 v0 2 (fun a1 =>
     j_oc σ 2 v0 (j_ia σ a1 (s_I σ v0 4) (
     some (some (.int (s_I σ a1 (s_I σ v0 4).toNatClampNeg)), σ)))))
    else some (some (.int (j_k 1000)), σ))) := rfl

-- LastStirred$Reader.figure(II)I
set_option maxRecDepth 1000000 in
set_option maxHeartbeats 8000000 in
theorem t_50_0 (call : Nat → List Value → Sto → Option Rr) (again : Nat → j_L → List Value → Sto → Option Rr) (σ : Sto) (v0 : Nat) (v1 : Int32) (v2 : Int32) :
    j_seg k_50 h_50 call again 2000 0 [some (.ref v0), some (.int v1), some (.int v2), none] [] σ =
    j_oc σ 2 v0 (j_c1 call 49 [.ref v0] σ (fun x2 τ1 =>
    if (x2 - (j_k 48)) < v1 then (some (some (.int (j_k (-9))), τ1))
    else if v2 < (x2 - (j_k 48)) then (some (some (.int (j_k (-9))), τ1))
    else j_oc τ1 2 v0 (if v0 < j_b then j_oc τ1 2 v0 (let τ3 : Sto := s_uI τ1 v0 4 ((s_I τ1 v0 4) + (j_k 1));
    some (some (.int (x2 - (j_k 48))), τ3)) else none))) := rfl

-- LastStirred$Search.seekSafe()V
set_option maxRecDepth 1000000 in
set_option maxHeartbeats 8000000 in
theorem t_52_0 (call : Nat → List Value → Sto → Option Rr) (again : Nat → j_L → List Value → Sto → Option Rr) (σ : Sto) (v0 : Nat) :
    j_seg k_52 h_52 call again 2000 0 [some (.ref v0)] [] σ =
    if (j_k 1) = 0 ∨ (j_k 1) = 1 then (if v0 < j_b then j_oc σ 3 v0 (let τ1 : Sto := s_uI σ v0 2 (j_k 1);
    some (none, τ1)) else none) else none := rfl

-- LastStirred$Search.seekDawn([I)V
set_option maxRecDepth 1000000 in
set_option maxHeartbeats 8000000 in
theorem t_53_0 (call : Nat → List Value → Sto → Option Rr) (again : Nat → j_L → List Value → Sto → Option Rr) (σ : Sto) (v0 : Nat) (v1 : Nat) :
    j_seg k_53 h_53 call again 2000 0 [some (.ref v0), some (.ref v1)] [] σ =
    if (j_k 0) = 0 ∨ (j_k 0) = 1 then (if v0 < j_b then j_oc σ 3 v0 (let τ1 : Sto := s_uI σ v0 2 (j_k 0);
    j_gP τ1 3 v0 1 (fun a2 =>
    j_ac τ1 v1 (j_k 0) a2 (j_k 0) (j_k 4) (fun τ3 =>
    some (none, τ3)))) else none) else none := rfl

-- LastStirred$Search.fewFrom(LLastStirred$Ground;LLastStirred$Flock;I)I
set_option maxRecDepth 1000000 in
set_option maxHeartbeats 8000000 in
theorem t_54_0 (call : Nat → List Value → Sto → Option Rr) (again : Nat → j_L → List Value → Sto → Option Rr) (σ : Sto) (v0 : Nat) (v1 : Nat) (v2 : Nat) (v3 : Int32) :
    j_seg k_54 h_54 call again 2000 0 [some (.ref v0), some (.ref v1), some (.ref v2), some (.int v3), none] [] σ =
    again 3 [some (.ref v0), some (.ref v1), some (.ref v2), some (.int v3), some (.int (j_k 0))] [] σ := rfl

set_option maxRecDepth 1000000 in
set_option maxHeartbeats 8000000 in
theorem t_54_3 (call : Nat → List Value → Sto → Option Rr) (again : Nat → j_L → List Value → Sto → Option Rr) (σ : Sto) (v0 : Nat) (v1 : Nat) (v2 : Nat) (v3 : Int32) (v4 : Int32) :
    j_seg k_54 h_54 call again 2000 3 [some (.ref v0), some (.ref v1), some (.ref v2), some (.int v3), some (.int v4)] [] σ =
    if v3 < v4 then (some (some (.int (j_k (-9))), σ))
    else j_oc σ 3 v0 (j_c0 call 56 [.ref v0, .ref v2, .int v4] σ (fun τ1 =>
    j_c0 call 57 [.ref v0, .ref v1, .int (j_k 0), .int (j_k 0)] τ1 (fun τ2 =>
    j_oc τ2 3 v0 (if 0 < (s_I τ2 v0 5) then (some (some (.int v4), τ2))
    else again 3 [some (.ref v0), some (.ref v1), some (.ref v2), some (.int v3), some (.int (v4 + (j_k 1)))] [] τ2)))) := rfl

-- LastStirred$Search.begin(LLastStirred$Flock;I)V
set_option maxRecDepth 1000000 in
set_option maxHeartbeats 8000000 in
theorem t_56_0 (call : Nat → List Value → Sto → Option Rr) (again : Nat → j_L → List Value → Sto → Option Rr) (σ : Sto) (v0 : Nat) (v1 : Nat) (v2 : Int32) :
    j_seg k_56 h_56 call again 2000 0 [some (.ref v0), some (.ref v1), some (.int v2)] [] σ =
    j_gP σ 3 v0 0 (fun a1 =>
    j_qa σ a1 (j_k 0) (fun a2 =>
    j_oc σ 0 a2 (j_c0 call 3 [.ref a2, .ref v1] σ (fun τ3 =>
    if v0 < j_b then j_oc τ3 3 v0 (let τ4 : Sto := s_uI τ3 v0 3 v2;
    if v0 < j_b then j_oc τ4 3 v0 (let τ5 : Sto := s_uI τ4 v0 4 (j_k 0);
    if v0 < j_b then j_oc τ5 3 v0 (let τ6 : Sto := s_uI τ5 v0 5 (j_k 0);
    if v0 < j_b then j_oc τ6 3 v0 (let τ7 : Sto := s_uI τ6 v0 6 (j_k 0);
    if v0 < j_b then j_oc τ7 3 v0 (let τ8 : Sto := s_uI τ7 v0 7 (j_k 0);
    if v0 < j_b then j_oc τ8 3 v0 (let τ9 : Sto := s_uI τ8 v0 8 (j_k 0);
    some (none, τ9)) else none) else none) else none) else none) else none) else none)))) := rfl

-- LastStirred$Search.follow(LLastStirred$Search;LLastStirred$Ground;II)V
set_option maxRecDepth 1000000 in
set_option maxHeartbeats 8000000 in
theorem t_57_0 (call : Nat → List Value → Sto → Option Rr) (again : Nat → j_L → List Value → Sto → Option Rr) (σ : Sto) (v0 : Nat) (v1 : Nat) (v2 : Int32) (v3 : Int32) :
    j_seg k_57 h_57 call again 2000 0 [some (.ref v0), some (.ref v1), some (.int v2), some (.int v3), none, none] [] σ =
    j_oc σ 3 v0 (if v2 < (s_I σ v0 3) then (if v2 < (j_k 3) then (j_gP σ 3 v0 0 (fun a1 =>
      j_qa σ a1 (v2 + (j_k 1)) (fun a2 =>
      again 34 [some (.ref v0), some (.ref v1), some (.int v2), some (.int v3), some (.ref a2), some (.int (j_k 0))] [] σ)))
     else j_oc σ 3 v0 (j_c0 call 58 [.ref v0, .ref v1, .int v2, .int v3] σ (fun τ3 =>
     some (none, τ3))))
    else j_oc σ 3 v0 (j_c0 call 58 [.ref v0, .ref v1, .int v2, .int v3] σ (fun τ4 =>
    some (none, τ4)))) := rfl

set_option maxRecDepth 1000000 in
set_option maxHeartbeats 8000000 in
theorem t_57_34 (call : Nat → List Value → Sto → Option Rr) (again : Nat → j_L → List Value → Sto → Option Rr) (σ : Sto) (v0 : Nat) (v1 : Nat) (v2 : Int32) (v3 : Int32) (v4 : Nat) (v5 : Int32) :
    j_seg k_57 h_57 call again 2000 34 [some (.ref v0), some (.ref v1), some (.int v2), some (.int v3), some (.ref v4), some (.int v5)] [] σ =
    j_gP σ 3 v0 0 (fun a1 =>
    j_qa σ a1 v2 (fun a2 =>
    j_oc σ 0 a2 (j_c1 call 13 [.ref a2] σ (fun x4 τ3 =>
    if v5 < x4 then (j_gP τ3 3 v0 0 (fun a5 =>
     j_qa τ3 a5 v2 (fun a6 =>
     j_oc τ3 0 v4 (j_c0 call 3 [.ref v4, .ref a6] τ3 (fun τ7 =>
     j_oc τ7 0 v4 (j_c1 call 29 [.ref v4, .ref v1, .int v5] τ7 (fun x9 τ8 =>
     if x9 = 0 then (again 34 [some (.ref v0), some (.ref v1), some (.int v2), some (.int v3), some (.ref v4), some (.int (v5 + (j_k 1)))] [] τ8)
     else j_c0 call 57 [.ref v0, .ref v1, .int (v2 + (j_k 1)), .int ((v3 <<< ((j_k 4) &&& 31)) ||| v5)] τ8 (fun τ10 =>
     again 34 [some (.ref v0), some (.ref v1), some (.int v2), some (.int v3), some (.ref v4), some (.int (v5 + (j_k 1)))] [] τ10))))))))
    else some (none, τ3))))) := rfl

-- LastStirred$Search.note(LLastStirred$Ground;II)V
set_option maxRecDepth 1000000 in
set_option maxHeartbeats 8000000 in
theorem t_58_0 (call : Nat → List Value → Sto → Option Rr) (again : Nat → j_L → List Value → Sto → Option Rr) (σ : Sto) (v0 : Nat) (v1 : Nat) (v2 : Int32) (v3 : Int32) :
    j_seg k_58 h_58 call again 2000 0 [some (.ref v0), some (.ref v1), some (.int v2), some (.int v3), none, none] [] σ =
    j_oc σ 3 v0 (if v0 < j_b then j_oc σ 3 v0 (let τ1 : Sto := s_uI σ v0 4 ((s_I σ v0 4) + (j_k 1));
    j_oc τ1 3 v0 (if (s_I τ1 v0 2) = 0 then (j_gP τ1 3 v0 0 (fun a2 =>
     j_qa τ1 a2 v2 (fun a3 =>
     j_gP τ1 3 v0 1 (fun a4 =>
     j_oc τ1 0 a3 (j_c1 call 18 [.ref a3, .ref a4] τ1 (fun x6 τ5 =>
     if x6 = 0 then (some (none, τ5))
     else j_oc τ5 3 v0 (if (s_I τ5 v0 5) = 0 then (if v0 < j_b then j_oc τ5 3 v0 (let τ7 : Sto := s_uI τ5 v0 6 v3;
      j_oc τ7 3 v0 (if v0 < j_b then j_oc τ7 3 v0 (let τ8 : Sto := s_uI τ7 v0 5 ((s_I τ7 v0 5) + (j_k 1));
      if v2 = 0 then (some (none, τ8))
      else j_oc τ8 3 v0 (if (j_k 4) = 0 then none else
      if v0 < j_b then j_oc τ8 3 v0 (let τ9 : Sto := s_uI τ8 v0 7 ((s_I τ8 v0 7) ||| ((j_k 1) <<< (((v3 >>> (((j_k 4) * (v2 - (j_k 1))) &&& 31)) / (j_k 4)) &&& 31)));
      j_oc τ9 3 v0 (if (j_k 4) = 0 then none else
      if v0 < j_b then j_oc τ9 3 v0 (let τ10 : Sto := s_uI τ9 v0 8 ((s_I τ9 v0 8) ||| ((j_k 1) <<< (((v3 >>> (((j_k 4) * (v2 - (j_k 1))) &&& 31)) - (v3 >>> (((j_k 4) * (v2 - (j_k 1))) &&& 31)) / (j_k 4) * (j_k 4)) &&& 31)));
      some (none, τ10)) else none)) else none)) else none)) else none)
     else j_oc τ5 3 v0 (if v0 < j_b then j_oc τ5 3 v0 (let τ11 : Sto := s_uI τ5 v0 5 ((s_I τ5 v0 5) + (j_k 1));
     if v2 = 0 then (some (none, τ11))
     else j_oc τ11 3 v0 (if (j_k 4) = 0 then none else
     if v0 < j_b then j_oc τ11 3 v0 (let τ12 : Sto := s_uI τ11 v0 7 ((s_I τ11 v0 7) ||| ((j_k 1) <<< (((v3 >>> (((j_k 4) * (v2 - (j_k 1))) &&& 31)) / (j_k 4)) &&& 31)));
     j_oc τ12 3 v0 (if (j_k 4) = 0 then none else
     if v0 < j_b then j_oc τ12 3 v0 (let τ13 : Sto := s_uI τ12 v0 8 ((s_I τ12 v0 8) ||| ((j_k 1) <<< (((v3 >>> (((j_k 4) * (v2 - (j_k 1))) &&& 31)) - (v3 >>> (((j_k 4) * (v2 - (j_k 1))) &&& 31)) / (j_k 4) * (j_k 4)) &&& 31)));
     some (none, τ13)) else none)) else none)) else none))))))))
    else j_gP τ1 3 v0 0 (fun a14 =>
    j_qa τ1 a14 v2 (fun a15 =>
    j_oc τ1 0 a15 (j_c1 call 17 [.ref a15, .ref v1] τ1 (fun x17 τ16 =>
    if x17 = 0 then (some (none, τ16))
    else j_oc τ16 3 v0 (if (s_I τ16 v0 5) = 0 then (if v0 < j_b then j_oc τ16 3 v0 (let τ18 : Sto := s_uI τ16 v0 6 v3;
     j_oc τ18 3 v0 (if v0 < j_b then j_oc τ18 3 v0 (let τ19 : Sto := s_uI τ18 v0 5 ((s_I τ18 v0 5) + (j_k 1));
     if v2 = 0 then (some (none, τ19))
     else j_oc τ19 3 v0 (if (j_k 4) = 0 then none else
     if v0 < j_b then j_oc τ19 3 v0 (let τ20 : Sto := s_uI τ19 v0 7 ((s_I τ19 v0 7) ||| ((j_k 1) <<< (((v3 >>> (((j_k 4) * (v2 - (j_k 1))) &&& 31)) / (j_k 4)) &&& 31)));
     j_oc τ20 3 v0 (if (j_k 4) = 0 then none else
     if v0 < j_b then j_oc τ20 3 v0 (let τ21 : Sto := s_uI τ20 v0 8 ((s_I τ20 v0 8) ||| ((j_k 1) <<< (((v3 >>> (((j_k 4) * (v2 - (j_k 1))) &&& 31)) - (v3 >>> (((j_k 4) * (v2 - (j_k 1))) &&& 31)) / (j_k 4) * (j_k 4)) &&& 31)));
     some (none, τ21)) else none)) else none)) else none)) else none)
    else j_oc τ16 3 v0 (if v0 < j_b then j_oc τ16 3 v0 (let τ22 : Sto := s_uI τ16 v0 5 ((s_I τ16 v0 5) + (j_k 1));
    if v2 = 0 then (some (none, τ22))
    else j_oc τ22 3 v0 (if (j_k 4) = 0 then none else
    if v0 < j_b then j_oc τ22 3 v0 (let τ23 : Sto := s_uI τ22 v0 7 ((s_I τ22 v0 7) ||| ((j_k 1) <<< (((v3 >>> (((j_k 4) * (v2 - (j_k 1))) &&& 31)) / (j_k 4)) &&& 31)));
    j_oc τ23 3 v0 (if (j_k 4) = 0 then none else
    if v0 < j_b then j_oc τ23 3 v0 (let τ24 : Sto := s_uI τ23 v0 8 ((s_I τ23 v0 8) ||| ((j_k 1) <<< (((v3 >>> (((j_k 4) * (v2 - (j_k 1))) &&& 31)) - (v3 >>> (((j_k 4) * (v2 - (j_k 1))) &&& 31)) / (j_k 4) * (j_k 4)) &&& 31)));
    some (none, τ24)) else none)) else none)) else none)))))))) else none) := rfl

-- LastStirred$Shelf.has(I)Z
set_option maxRecDepth 1000000 in
set_option maxHeartbeats 8000000 in
theorem t_60_0 (call : Nat → List Value → Sto → Option Rr) (again : Nat → j_L → List Value → Sto → Option Rr) (σ : Sto) (v0 : Nat) (v1 : Int32) :
    j_seg k_60 h_60 call again 2000 0 [some (.ref v0), some (.int v1)] [] σ =
    if v1 < 0 then (if (j_k 0) = 0 ∨ (j_k 0) = 1 then some (some (.int (j_k 0)), σ) else none)
    else j_gP σ 4 v0 1 (fun a1 =>
    j_len σ a1 (fun n2 =>
    if v1 < n2 then (if (j_k 1) = 0 ∨ (j_k 1) = 1 then some (some (.int (j_k 1)), σ) else none)
    else if (j_k 0) = 0 ∨ (j_k 0) = 1 then some (some (.int (j_k 0)), σ) else none)) := rfl

-- LastStirred$Shelf.make(III)V
set_option maxRecDepth 1000000 in
set_option maxHeartbeats 8000000 in
theorem t_61_0 (call : Nat → List Value → Sto → Option Rr) (again : Nat → j_L → List Value → Sto → Option Rr) (σ : Sto) (v0 : Nat) (v1 : Int32) (v2 : Int32) (v3 : Int32) :
    j_seg k_61 h_61 call again 2000 0 [some (.ref v0), some (.int v1), some (.int v2), some (.int v3)] [] σ =
    j_gP σ 4 v0 0 (fun a1 =>
    j_qa σ a1 v1 (fun a2 =>
    j_c0 call 127 [.ref a2, .int v3] σ (fun τ3 =>
    j_gP τ3 4 v0 1 (fun a4 =>
    j_is τ3 a4 v1 (let τ5 : Sto := s_uI τ3 a4 v1.toNatClampNeg v2;
    some (none, τ5)))))) := rfl

-- LastStirred$Shelf.thereAre()I
set_option maxRecDepth 1000000 in
set_option maxHeartbeats 8000000 in
theorem t_62_0 (call : Nat → List Value → Sto → Option Rr) (again : Nat → j_L → List Value → Sto → Option Rr) (σ : Sto) (v0 : Nat) :
    j_seg k_62 h_62 call again 2000 0 [some (.ref v0), none, none, none, none, none] [] σ =
    j_gP σ 4 v0 1 (fun a1 =>
    j_len σ a1 (fun n2 =>
    again 13 [some (.ref v0), some (.int (j_k 0)), some (.ref a1), some (.int n2), some (.int (j_k 0)), none] [] σ)) := rfl

set_option maxRecDepth 1000000 in
set_option maxHeartbeats 8000000 in
theorem t_62_13 (call : Nat → List Value → Sto → Option Rr) (again : Nat → j_L → List Value → Sto → Option Rr) (σ : Sto) (v0 : Nat) (v1 : Int32) (v2 : Nat) (v3 : Int32) (v4 : Int32) :
    j_seg k_62 h_62 call again 2000 13 [some (.ref v0), some (.int v1), some (.ref v2), some (.int v3), some (.int v4), none] [] σ =
    if v4 < v3 then (j_ia σ v2 v4 (
     if (s_I σ v2 v4.toNatClampNeg) = (j_k (-1)) then (again 13 [some (.ref v0), some (.int v1), some (.ref v2), some (.int v3), some (.int (v4 + (j_k 1))), none] [] σ)
     else again 13 [some (.ref v0), some (.int (v1 + (j_k 1))), some (.ref v2), some (.int v3), some (.int (v4 + (j_k 1))), none] [] σ))
    else some (some (.int v1), σ) := rfl

-- LastStirred$Shelf.addTo(J)J
set_option maxRecDepth 1000000 in
set_option maxHeartbeats 8000000 in
theorem t_63_0 (call : Nat → List Value → Sto → Option Rr) (again : Nat → j_L → List Value → Sto → Option Rr) (σ : Sto) (v0 : Nat) (v1 : Int64) :
    j_seg k_63 h_63 call again 2000 0 [some (.ref v0), some (.long v1), none, none, none, none, none] [] σ =
    again 5 [some (.ref v0), some (.long v1), none, some (.long v1), none, some (.int (j_k 0)), none] [] σ := rfl

set_option maxRecDepth 1000000 in
set_option maxHeartbeats 8000000 in
theorem t_63_5 (call : Nat → List Value → Sto → Option Rr) (again : Nat → j_L → List Value → Sto → Option Rr) (σ : Sto) (v0 : Nat) (v1 : Int64) (v3 : Int64) (v5 : Int32) :
    j_seg k_63 h_63 call again 2000 5 [some (.ref v0), some (.long v1), none, some (.long v3), none, some (.int v5), none] [] σ =
    j_gP σ 4 v0 1 (fun a1 =>
    j_len σ a1 (fun n2 =>
    if v5 < n2 then (j_gP σ 4 v0 1 (fun a3 =>
     j_ia σ a3 v5 (
     again 33 [some (.ref v0), some (.long v1), none, some (.long (((j_cJ 3) * v3) + (s_I σ a3 v5.toNatClampNeg).toInt64)), none, some (.int v5), some (.int (j_k 0))] [] σ)))
    else some (some (.long v3), σ))) := rfl

set_option maxRecDepth 1000000 in
set_option maxHeartbeats 8000000 in
theorem t_63_33 (call : Nat → List Value → Sto → Option Rr) (again : Nat → j_L → List Value → Sto → Option Rr) (σ : Sto) (v0 : Nat) (v1 : Int64) (v3 : Int64) (v5 : Int32) (v6 : Int32) :
    j_seg k_63 h_63 call again 2000 33 [some (.ref v0), some (.long v1), none, some (.long v3), none, some (.int v5), some (.int v6)] [] σ =
    j_gP σ 4 v0 1 (fun a1 =>
    j_ia σ a1 v5 (
    if v6 < (s_I σ a1 v5.toNatClampNeg) then (j_gP σ 4 v0 0 (fun a2 =>
     j_qa σ a2 v5 (fun a3 =>
     j_ia σ a3 v6 (
     again 33 [some (.ref v0), some (.long v1), none, some (.long (((j_cJ 3) * v3) + (s_I σ a3 v6.toNatClampNeg).toInt64)), none, some (.int v5), some (.int (v6 + (j_k 1)))] [] σ))))
    else again 5 [some (.ref v0), some (.long v1), none, some (.long v3), none, some (.int (v5 + (j_k 1))), none] [] σ)) := rfl

-- java/lang/Integer.bitCount(I)I
set_option maxRecDepth 1000000 in
set_option maxHeartbeats 8000000 in
theorem t_126_0 (call : Nat → List Value → Sto → Option Rr) (again : Nat → j_L → List Value → Sto → Option Rr) (σ : Sto) (v0 : Int32) :
    j_seg k_126 h_126 call again 2000 0 [some (.int v0)] [] σ =
    some (some (.int ((((((((v0 - ((v0.toUInt32 >>> ((j_k 1).toUInt32 &&& Int32.toUInt32 31)).toInt32 &&& (j_ci 0))) &&& (j_ci 1)) + (((v0 - ((v0.toUInt32 >>> ((j_k 1).toUInt32 &&& Int32.toUInt32 31)).toInt32 &&& (j_ci 0))).toUInt32 >>> ((j_k 2).toUInt32 &&& Int32.toUInt32 31)).toInt32 &&& (j_ci 1))) + ((((v0 - ((v0.toUInt32 >>> ((j_k 1).toUInt32 &&& Int32.toUInt32 31)).toInt32 &&& (j_ci 0))) &&& (j_ci 1)) + (((v0 - ((v0.toUInt32 >>> ((j_k 1).toUInt32 &&& Int32.toUInt32 31)).toInt32 &&& (j_ci 0))).toUInt32 >>> ((j_k 2).toUInt32 &&& Int32.toUInt32 31)).toInt32 &&& (j_ci 1))).toUInt32 >>> ((j_k 4).toUInt32 &&& Int32.toUInt32 31)).toInt32) &&& (j_ci 2)) + ((((((v0 - ((v0.toUInt32 >>> ((j_k 1).toUInt32 &&& Int32.toUInt32 31)).toInt32 &&& (j_ci 0))) &&& (j_ci 1)) + (((v0 - ((v0.toUInt32 >>> ((j_k 1).toUInt32 &&& Int32.toUInt32 31)).toInt32 &&& (j_ci 0))).toUInt32 >>> ((j_k 2).toUInt32 &&& Int32.toUInt32 31)).toInt32 &&& (j_ci 1))) + ((((v0 - ((v0.toUInt32 >>> ((j_k 1).toUInt32 &&& Int32.toUInt32 31)).toInt32 &&& (j_ci 0))) &&& (j_ci 1)) + (((v0 - ((v0.toUInt32 >>> ((j_k 1).toUInt32 &&& Int32.toUInt32 31)).toInt32 &&& (j_ci 0))).toUInt32 >>> ((j_k 2).toUInt32 &&& Int32.toUInt32 31)).toInt32 &&& (j_ci 1))).toUInt32 >>> ((j_k 4).toUInt32 &&& Int32.toUInt32 31)).toInt32) &&& (j_ci 2)).toUInt32 >>> ((j_k 8).toUInt32 &&& Int32.toUInt32 31)).toInt32) + (((((((v0 - ((v0.toUInt32 >>> ((j_k 1).toUInt32 &&& Int32.toUInt32 31)).toInt32 &&& (j_ci 0))) &&& (j_ci 1)) + (((v0 - ((v0.toUInt32 >>> ((j_k 1).toUInt32 &&& Int32.toUInt32 31)).toInt32 &&& (j_ci 0))).toUInt32 >>> ((j_k 2).toUInt32 &&& Int32.toUInt32 31)).toInt32 &&& (j_ci 1))) + ((((v0 - ((v0.toUInt32 >>> ((j_k 1).toUInt32 &&& Int32.toUInt32 31)).toInt32 &&& (j_ci 0))) &&& (j_ci 1)) + (((v0 - ((v0.toUInt32 >>> ((j_k 1).toUInt32 &&& Int32.toUInt32 31)).toInt32 &&& (j_ci 0))).toUInt32 >>> ((j_k 2).toUInt32 &&& Int32.toUInt32 31)).toInt32 &&& (j_ci 1))).toUInt32 >>> ((j_k 4).toUInt32 &&& Int32.toUInt32 31)).toInt32) &&& (j_ci 2)) + ((((((v0 - ((v0.toUInt32 >>> ((j_k 1).toUInt32 &&& Int32.toUInt32 31)).toInt32 &&& (j_ci 0))) &&& (j_ci 1)) + (((v0 - ((v0.toUInt32 >>> ((j_k 1).toUInt32 &&& Int32.toUInt32 31)).toInt32 &&& (j_ci 0))).toUInt32 >>> ((j_k 2).toUInt32 &&& Int32.toUInt32 31)).toInt32 &&& (j_ci 1))) + ((((v0 - ((v0.toUInt32 >>> ((j_k 1).toUInt32 &&& Int32.toUInt32 31)).toInt32 &&& (j_ci 0))) &&& (j_ci 1)) + (((v0 - ((v0.toUInt32 >>> ((j_k 1).toUInt32 &&& Int32.toUInt32 31)).toInt32 &&& (j_ci 0))).toUInt32 >>> ((j_k 2).toUInt32 &&& Int32.toUInt32 31)).toInt32 &&& (j_ci 1))).toUInt32 >>> ((j_k 4).toUInt32 &&& Int32.toUInt32 31)).toInt32) &&& (j_ci 2)).toUInt32 >>> ((j_k 8).toUInt32 &&& Int32.toUInt32 31)).toInt32).toUInt32 >>> ((j_k 16).toUInt32 &&& Int32.toUInt32 31)).toInt32) &&& (j_k 63))), σ) := rfl

-- java/util/Arrays.fill([II)V
set_option maxRecDepth 1000000 in
set_option maxHeartbeats 8000000 in
theorem t_127_0 (call : Nat → List Value → Sto → Option Rr) (again : Nat → j_L → List Value → Sto → Option Rr) (σ : Sto) (v0 : Nat) (v1 : Int32) :
    j_seg k_127 h_127 call again 2000 0 [some (.ref v0), some (.int v1), none, none] [] σ =
    j_len σ v0 (fun n1 =>
    again 5 [some (.ref v0), some (.int v1), some (.int (j_k 0)), some (.int n1)] [] σ) := rfl

set_option maxRecDepth 1000000 in
set_option maxHeartbeats 8000000 in
theorem t_127_5 (call : Nat → List Value → Sto → Option Rr) (again : Nat → j_L → List Value → Sto → Option Rr) (σ : Sto) (v0 : Nat) (v1 : Int32) (v2 : Int32) (v3 : Int32) :
    j_seg k_127 h_127 call again 2000 5 [some (.ref v0), some (.int v1), some (.int v2), some (.int v3)] [] σ =
    if v2 < v3 then (j_is σ v0 v2 (let τ1 : Sto := s_uI σ v0 v2.toNatClampNeg v1;
     again 5 [some (.ref v0), some (.int v1), some (.int (v2 + (j_k 1))), some (.int v3)] [] τ1))
    else some (none, σ) := rfl

