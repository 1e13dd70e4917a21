/-! ===== what each stretch of each method does (by program wip/gen) ===== -/
-- LastStirred.at(II)I
set_option maxRecDepth 1000000 in
set_option maxHeartbeats 8000000 in
theorem t_71_0 (call : Nat → List Value → Sto → Option Rr) (again : Nat → j_L → List Value → Sto → Option Rr) (σ : Sto) (v0 : Nat) (v1 : Int32) (v2 : Int32) :
    j_seg k_71 h_71 call again 2000 0 [some (.ref v0), some (.int v1), some (.int v2), none] [] σ =
    j_gP σ 6 v0 0 (fun a1 =>
    j_oc σ 6 v0 (j_c1 call 115 [.ref v0, .ref a1, .int v1, .int v2] σ (fun x3 τ2 =>
    if x3 = 0 then (j_gP τ2 6 v0 0 (fun a4 =>
     j_gP τ2 4 a4 0 (fun a5 =>
     j_qa τ2 a5 v1 (fun a6 =>
     j_ia τ2 a6 v2 (
     if v0 < j_b then j_oc τ2 6 v0 (let τ7 : Sto := s_uI τ2 v0 13 (s_I τ2 a6 v2.toNatClampNeg);
     some (some (.int (j_k 1)), τ7)) else none)))))
    else some (some (.int x3), τ2)))) := rfl

-- LastStirred.tear(I)I
set_option maxRecDepth 1000000 in
set_option maxHeartbeats 8000000 in
theorem t_72_0 (call : Nat → List Value → Sto → Option Rr) (again : Nat → j_L → List Value → Sto → Option Rr) (σ : Sto) (v0 : Nat) (v1 : Int32) :
    j_seg k_72 h_72 call again 2000 0 [some (.ref v0), some (.int v1), none] [] σ =
    j_gP σ 6 v0 0 (fun a1 =>
    j_oc σ 6 v0 (j_c1 call 114 [.ref v0, .ref a1, .int v1] σ (fun x3 τ2 =>
    if x3 = 0 then (j_gP τ2 6 v0 0 (fun a4 =>
     j_gP τ2 4 a4 1 (fun a5 =>
     j_is τ2 a5 v1 (let τ6 : Sto := s_uI τ2 a5 v1.toNatClampNeg (j_k (-1));
     some (some (.int (j_k 1)), τ6)))))
    else some (some (.int x3), τ2)))) := rfl

-- LastStirred.text(II)I
set_option maxRecDepth 1000000 in
set_option maxHeartbeats 8000000 in
theorem t_75_0 (call : Nat → List Value → Sto → Option Rr) (again : Nat → j_L → List Value → Sto → Option Rr) (σ : Sto) (v0 : Nat) (v1 : Int32) (v2 : Int32) :
    j_seg k_75 h_75 call again 2000 0 [some (.ref v0), some (.int v1), some (.int v2)] [] σ =
    j_gP σ 6 v0 1 (fun a1 =>
    j_oc σ 6 v0 (j_c1 call 113 [.ref v0, .ref a1, .int v1, .int v2, .int (j_k 32)] σ (fun x3 τ2 =>
    some (some (.int x3), τ2)))) := rfl

-- LastStirred.put(III)I
set_option maxRecDepth 1000000 in
set_option maxHeartbeats 8000000 in
theorem t_76_0 (call : Nat → List Value → Sto → Option Rr) (again : Nat → j_L → List Value → Sto → Option Rr) (σ : Sto) (v0 : Nat) (v1 : Int32) (v2 : Int32) (v3 : Int32) :
    j_seg k_76 h_76 call again 2000 0 [some (.ref v0), some (.int v1), some (.int v2), some (.int v3), none, none] [] σ =
    j_gP σ 6 v0 1 (fun a1 =>
    j_oc σ 6 v0 (j_c1 call 115 [.ref v0, .ref a1, .int v1, .int v2] σ (fun x3 τ2 =>
    if x3 = 0 then (j_gP τ2 6 v0 1 (fun a4 =>
     j_gP τ2 4 a4 0 (fun a5 =>
     j_qa τ2 a5 v1 (fun a6 =>
     j_ia τ2 a6 v2 (
     j_gP τ2 6 v0 1 (fun a7 =>
     j_gP τ2 4 a7 0 (fun a8 =>
     j_qa τ2 a8 v1 (fun a9 =>
     j_is τ2 a9 v2 (let τ10 : Sto := s_uI τ2 a9 v2.toNatClampNeg v3.toInt8.toInt32;
     some (some (.int ((s_I τ2 a6 v2.toNatClampNeg) + (j_k 1000))), τ10))))))))))
    else some (some (.int x3), τ2)))) := rfl

-- LastStirred.fault(I)I
set_option maxRecDepth 1000000 in
set_option maxHeartbeats 8000000 in
theorem t_77_0 (call : Nat → List Value → Sto → Option Rr) (again : Nat → j_L → List Value → Sto → Option Rr) (σ : Sto) (v0 : Nat) (v1 : Int32) :
    j_seg k_77 h_77 call again 2000 0 [some (.ref v0), some (.int v1), none] [] σ =
    j_gP σ 6 v0 1 (fun a1 =>
    j_oc σ 6 v0 (j_c1 call 114 [.ref v0, .ref a1, .int v1] σ (fun x3 τ2 =>
    if x3 = 0 then (j_gP τ2 6 v0 2 (fun a4 =>
     j_gP τ2 6 v0 1 (fun a5 =>
     j_gP τ2 4 a5 0 (fun a6 =>
     j_qa τ2 a6 v1 (fun a7 =>
     j_gP τ2 6 v0 1 (fun a8 =>
     j_gP τ2 4 a8 1 (fun a9 =>
     j_ia τ2 a9 v1 (
     j_oc τ2 2 a4 (j_c1 call 43 [.ref a4, .ref a7, .int (s_I τ2 a9 v1.toNatClampNeg)] τ2 (fun x11 τ10 =>
     some (some (.int x11), τ10)))))))))))
    else some (some (.int x3), τ2)))) := rfl

-- LastStirred.ground(I)I
set_option maxRecDepth 1000000 in
set_option maxHeartbeats 8000000 in
theorem t_78_0 (call : Nat → List Value → Sto → Option Rr) (again : Nat → j_L → List Value → Sto → Option Rr) (σ : Sto) (v0 : Nat) (v1 : Int32) :
    j_seg k_78 h_78 call again 2000 0 [some (.ref v0), some (.int v1), none] [] σ =
    j_gP σ 6 v0 1 (fun a1 =>
    j_oc σ 6 v0 (j_c1 call 114 [.ref v0, .ref a1, .int v1] σ (fun x3 τ2 =>
    if x3 = 0 then (j_gP τ2 6 v0 2 (fun a4 =>
     j_gP τ2 6 v0 1 (fun a5 =>
     j_gP τ2 4 a5 0 (fun a6 =>
     j_qa τ2 a6 v1 (fun a7 =>
     j_gP τ2 6 v0 1 (fun a8 =>
     j_gP τ2 4 a8 1 (fun a9 =>
     j_ia τ2 a9 v1 (
     j_oc τ2 2 a4 (j_c1 call 43 [.ref a4, .ref a7, .int (s_I τ2 a9 v1.toNatClampNeg)] τ2 (fun x11 τ10 =>
     if x11 = (j_k (-9)) then (j_gP τ10 6 v0 3 (fun a12 =>
      j_gP τ10 6 v0 2 (fun a13 =>
      j_gP τ10 2 a13 0 (fun a14 =>
      j_oc τ10 1 a12 (j_c0 call 34 [.ref a12, .ref a14] τ10 (fun τ15 =>
      j_gP τ15 6 v0 4 (fun a16 =>
      j_gP τ15 6 v0 2 (fun a17 =>
      j_gP τ15 2 a17 1 (fun a18 =>
      j_oc τ15 0 a16 (j_c0 call 3 [.ref a16, .ref a18] τ15 (fun τ19 =>
      if v0 < j_b then j_oc τ19 6 v0 (let τ20 : Sto := s_uI τ19 v0 11 (j_k 0);
      j_gP τ20 6 v0 4 (fun a21 =>
      j_oc τ20 0 a21 (some (some (.int (s_I τ20 a21 3)), τ20)))) else none)))))))))))
     else some (some (.int (j_k (-4))), τ10)))))))))))
    else some (some (.int x3), τ2)))) := rfl

-- LastStirred.cell(I)I
set_option maxRecDepth 1000000 in
set_option maxHeartbeats 8000000 in
theorem t_79_0 (call : Nat → List Value → Sto → Option Rr) (again : Nat → j_L → List Value → Sto → Option Rr) (σ : Sto) (v0 : Nat) (v1 : Int32) :
    j_seg k_79 h_79 call again 2000 0 [some (.ref v0), some (.int v1)] [] σ =
    j_gP σ 6 v0 3 (fun a1 =>
    j_oc σ 1 a1 (j_c1 call 35 [.ref a1, .int v1] σ (fun x3 τ2 =>
    if x3 = 0 then (some (some (.int (j_k (-1))), τ2))
    else j_gP τ2 6 v0 4 (fun a4 =>
    j_oc τ2 0 a4 (j_c1 call 8 [.ref a4, .int v1] τ2 (fun x6 τ5 =>
    if v0 < j_b then j_oc τ5 6 v0 (let τ7 : Sto := s_uI τ5 v0 13 x6;
    j_gP τ7 6 v0 3 (fun a8 =>
    j_gP τ7 1 a8 0 (fun a9 =>
    j_ia τ7 a9 v1 (
    some (some (.int (s_I τ7 a9 v1.toNatClampNeg)), τ7))))) else none)))))) := rfl

-- LastStirred.beast(II)I
set_option maxRecDepth 1000000 in
set_option maxHeartbeats 8000000 in
theorem t_81_0 (call : Nat → List Value → Sto → Option Rr) (again : Nat → j_L → List Value → Sto → Option Rr) (σ : Sto) (v0 : Nat) (v1 : Int32) (v2 : Int32) :
    j_seg k_81 h_81 call again 2000 0 [some (.ref v0), some (.int v1), some (.int v2)] [] σ =
    j_gP σ 6 v0 4 (fun a1 =>
    j_oc σ 0 a1 (j_c1 call 5 [.ref a1, .int v1] σ (fun x3 τ2 =>
    if x3 = 0 then (some (some (.int (j_k (-1))), τ2))
    else if v2 < 0 then (some (some (.int (j_k (-1))), τ2))
    else if (j_k 2) < v2 then (some (some (.int (j_k (-1))), τ2))
    else j_gP τ2 6 v0 4 (fun a4 =>
    j_oc τ2 0 a4 (j_c1 call 12 [.ref a4, .int v1, .int v2] τ2 (fun x6 τ5 =>
    if v0 < j_b then j_oc τ5 6 v0 (let τ7 : Sto := s_uI τ5 v0 13 x6;
    some (some (.int (j_k 1)), τ7)) else none)))))) := rfl

-- LastStirred.last()I
set_option maxRecDepth 1000000 in
set_option maxHeartbeats 8000000 in
theorem t_83_0 (call : Nat → List Value → Sto → Option Rr) (again : Nat → j_L → List Value → Sto → Option Rr) (σ : Sto) (v0 : Nat) :
    j_seg k_83 h_83 call again 2000 0 [some (.ref v0)] [] σ =
    j_gP σ 6 v0 4 (fun a1 =>
    j_oc σ 0 a1 (if v0 < j_b then j_oc σ 6 v0 (let τ2 : Sto := s_uI σ v0 13 (s_I σ a1 5);
    j_gP τ2 6 v0 4 (fun a3 =>
    j_oc τ2 0 a3 (some (some (.int (s_I τ2 a3 4)), τ2)))) else none)) := rfl

-- LastStirred.stir(II)I
set_option maxRecDepth 1000000 in
set_option maxHeartbeats 8000000 in
theorem t_84_0 (call : Nat → List Value → Sto → Option Rr) (again : Nat → j_L → List Value → Sto → Option Rr) (σ : Sto) (v0 : Nat) (v1 : Int32) (v2 : Int32) :
    j_seg k_84 h_84 call again 2000 0 [some (.ref v0), some (.int v1), some (.int v2), none] [] σ =
    j_gP σ 6 v0 4 (fun a1 =>
    j_oc σ 0 a1 (j_c1 call 5 [.ref a1, .int v1] σ (fun x3 τ2 =>
    if x3 = 0 then (some (some (.int (j_k (-1))), τ2))
    else j_c1 call 118 [.int v2] τ2 (fun x5 τ4 =>
    if x5 = 0 then (some (some (.int (j_k (-1))), τ4))
    else j_gP τ4 6 v0 4 (fun a6 =>
    j_gP τ4 6 v0 3 (fun a7 =>
    j_oc τ4 0 a6 (j_c1 call 25 [.ref a6, .ref a7, .int v1, .int v2] τ4 (fun x9 τ8 =>
    if x9 = (j_k (-9)) then (some (some (.int (j_k (-4))), τ8))
    else some (some (.int x9), τ8))))))))) := rfl

-- LastStirred.go(I)I
set_option maxRecDepth 1000000 in
set_option maxHeartbeats 8000000 in
theorem t_85_0 (call : Nat → List Value → Sto → Option Rr) (again : Nat → j_L → List Value → Sto → Option Rr) (σ : Sto) (v0 : Nat) (v1 : Int32) :
    j_seg k_85 h_85 call again 2000 0 [some (.ref v0), some (.int v1), none, none] [] σ =
    if v1 < 0 then (some (some (.int (j_k (-1))), σ))
    else if (j_k 40) < v1 then (some (some (.int (j_k (-1))), σ))
    else j_gP σ 6 v0 3 (fun a1 =>
    j_oc σ 1 a1 (if (s_I σ a1 5) = 0 then (some (some (.int (j_k (-4))), σ))
    else j_gP σ 6 v0 4 (fun a2 =>
    j_oc σ 0 a2 (if (j_k 10000) < ((s_I σ a2 8) + v1) then (some (some (.int (j_k (-6))), σ))
    else again 47 [some (.ref v0), some (.int v1), some (.int (j_k 0)), some (.int (j_k 0))] [] σ)))) := rfl

set_option maxRecDepth 1000000 in
set_option maxHeartbeats 8000000 in
theorem t_85_47 (call : Nat → List Value → Sto → Option Rr) (again : Nat → j_L → List Value → Sto → Option Rr) (σ : Sto) (v0 : Nat) (v1 : Int32) (v2 : Int32) (v3 : Int32) :
    j_seg k_85 h_85 call again 2000 47 [some (.ref v0), some (.int v1), some (.int v2), some (.int v3)] [] σ =
    if v3 < v1 then (j_gP σ 6 v0 4 (fun a1 =>
     j_gP σ 6 v0 3 (fun a2 =>
     j_oc σ 0 a1 (j_c1 call 26 [.ref a1, .ref a2] σ (fun x4 τ3 =>
     again 47 [some (.ref v0), some (.int v1), some (.int x4), some (.int (v3 + (j_k 1)))] [] τ3)))))
    else some (some (.int v2), σ) := rfl

-- LastStirred.run()I
set_option maxRecDepth 1000000 in
set_option maxHeartbeats 8000000 in
theorem t_86_0 (call : Nat → List Value → Sto → Option Rr) (again : Nat → j_L → List Value → Sto → Option Rr) (σ : Sto) (v0 : Nat) :
    j_seg k_86 h_86 call again 2000 0 [some (.ref v0), none] [] σ =
    j_gP σ 6 v0 3 (fun a1 =>
    j_oc σ 1 a1 (if (s_I σ a1 5) = 0 then (some (some (.int (j_k (-4))), σ))
    else j_gP σ 6 v0 4 (fun a2 =>
    j_oc σ 0 a2 (if (j_k 9960) < (s_I σ a2 8) then (some (some (.int (j_k (-6))), σ))
    else j_gP σ 6 v0 4 (fun a3 =>
    j_oc σ 0 a3 (j_gP σ 6 v0 4 (fun a4 =>
    j_gP σ 6 v0 3 (fun a5 =>
    j_oc σ 0 a4 (j_c1 call 28 [.ref a4, .ref a5] σ (fun x7 τ6 =>
    if x7 = 0 then (if v0 < j_b then j_oc τ6 6 v0 (let τ8 : Sto := s_uI τ6 v0 13 (j_k 0);
     j_gP τ8 6 v0 4 (fun a9 =>
     j_oc τ8 0 a9 (some (some (.int ((s_I τ8 a9 8) - (s_I σ a3 8))), τ8)))) else none)
    else if v0 < j_b then j_oc τ6 6 v0 (let τ10 : Sto := s_uI τ6 v0 13 (j_k 1);
    j_gP τ10 6 v0 4 (fun a11 =>
    j_oc τ10 0 a11 (some (some (.int ((s_I τ10 a11 8) - (s_I σ a3 8))), τ10)))) else none)))))))))) := rfl

-- LastStirred.ring()I
set_option maxRecDepth 1000000 in
set_option maxHeartbeats 8000000 in
theorem t_87_0 (call : Nat → List Value → Sto → Option Rr) (again : Nat → j_L → List Value → Sto → Option Rr) (σ : Sto) (v0 : Nat) :
    j_seg k_87 h_87 call again 2000 0 [some (.ref v0), none, none] [] σ =
    j_gP σ 6 v0 3 (fun a1 =>
    j_oc σ 1 a1 (if (s_I σ a1 5) = 0 then (some (some (.int (j_k (-4))), σ))
    else j_gP σ 6 v0 6 (fun a2 =>
    j_gP σ 6 v0 4 (fun a3 =>
    j_oc σ 0 a2 (j_c0 call 3 [.ref a2, .ref a3] σ (fun τ4 =>
    again 26 [some (.ref v0), some (.int (j_k 0)), none] [] τ4)))))) := rfl

set_option maxRecDepth 1000000 in
set_option maxHeartbeats 8000000 in
theorem t_87_26 (call : Nat → List Value → Sto → Option Rr) (again : Nat → j_L → List Value → Sto → Option Rr) (σ : Sto) (v0 : Nat) (v1 : Int32) :
    j_seg k_87 h_87 call again 2000 26 [some (.ref v0), some (.int v1), none] [] σ =
    if (j_k 200) < v1 then (some (some (.int (j_k (-9))), σ))
    else j_gP σ 6 v0 7 (fun a1 =>
    j_gP σ 6 v0 6 (fun a2 =>
    j_oc σ 0 a2 (j_c2 call 19 [.ref a2] σ (fun x4 τ3 =>
    if a1 < j_b then j_la τ3 a1 v1 (let τ5 : Sto := s_uJ τ3 a1 v1.toNatClampNeg x4;
    again 48 [some (.ref v0), some (.int v1), some (.int (j_k 0))] [] τ5) else none)))) := rfl

set_option maxRecDepth 1000000 in
set_option maxHeartbeats 8000000 in
theorem t_87_48 (call : Nat → List Value → Sto → Option Rr) (again : Nat → j_L → List Value → Sto → Option Rr) (σ : Sto) (v0 : Nat) (v1 : Int32) (v2 : Int32) :
    j_seg k_87 h_87 call again 2000 48 [some (.ref v0), some (.int v1), some (.int v2)] [] σ =
    if v2 < v1 then (j_gP σ 6 v0 7 (fun a1 =>
     j_la σ a1 v2 (
     j_gP σ 6 v0 7 (fun a2 =>
     j_la σ a2 v1 (
     if (lg_cmp (s_J σ a1 v2.toNatClampNeg) (s_J σ a2 v1.toNatClampNeg)) = 0 then (if v0 < j_b then j_oc σ 6 v0 (let τ3 : Sto := s_uI σ v0 13 (v1 - v2);
      some (some (.int v1), τ3)) else none)
     else again 48 [some (.ref v0), some (.int v1), some (.int (v2 + (j_k 1)))] [] σ)))))
    else j_gP σ 6 v0 6 (fun a4 =>
    j_gP σ 6 v0 3 (fun a5 =>
    j_oc σ 0 a4 (j_c1 call 26 [.ref a4, .ref a5] σ (fun x7 τ6 =>
    again 26 [some (.ref v0), some (.int (v1 + (j_k 1))), none] [] τ6)))) := rfl

-- LastStirred.where(I)I
set_option maxRecDepth 1000000 in
set_option maxHeartbeats 8000000 in
theorem t_88_0 (call : Nat → List Value → Sto → Option Rr) (again : Nat → j_L → List Value → Sto → Option Rr) (σ : Sto) (v0 : Nat) (v1 : Int32) :
    j_seg k_88 h_88 call again 2000 0 [some (.ref v0), some (.int v1), none] [] σ =
    j_gP σ 6 v0 0 (fun a1 =>
    j_oc σ 4 a1 (j_c1 call 60 [.ref a1, .int v1] σ (fun x3 τ2 =>
    if x3 = 0 then (some (some (.int (j_k (-1))), τ2))
    else j_gP τ2 6 v0 0 (fun a4 =>
    j_gP τ2 6 v0 4 (fun a5 =>
    j_oc τ2 0 a5 (j_oc τ2 4 a4 (j_c0 call 61 [.ref a4, .int v1, .int (s_I τ2 a5 3), .int (j_k 0)] τ2 (fun τ6 =>
    again 31 [some (.ref v0), some (.int v1), some (.int (j_k 0))] [] τ6)))))))) := rfl

set_option maxRecDepth 1000000 in
set_option maxHeartbeats 8000000 in
theorem t_88_31 (call : Nat → List Value → Sto → Option Rr) (again : Nat → j_L → List Value → Sto → Option Rr) (σ : Sto) (v0 : Nat) (v1 : Int32) (v2 : Int32) :
    j_seg k_88 h_88 call again 2000 31 [some (.ref v0), some (.int v1), some (.int v2)] [] σ =
    j_gP σ 6 v0 4 (fun a1 =>
    j_oc σ 0 a1 (if v2 < (s_I σ a1 3) then (j_gP σ 6 v0 0 (fun a2 =>
     j_gP σ 4 a2 0 (fun a3 =>
     j_qa σ a3 v1 (fun a4 =>
     j_gP σ 6 v0 4 (fun a5 =>
     j_gP σ 0 a5 1 (fun a6 =>
     j_ia σ a6 v2 (
     j_is σ a4 v2 (let τ7 : Sto := s_uI σ a4 v2.toNatClampNeg (s_I σ a6 v2.toNatClampNeg);
     again 31 [some (.ref v0), some (.int v1), some (.int (v2 + (j_k 1)))] [] τ7))))))))
    else j_gP σ 6 v0 4 (fun a8 =>
    j_oc σ 0 a8 (j_c1 call 14 [.ref a8] σ (fun x10 τ9 =>
    some (some (.int x10), τ9)))))) := rfl

-- LastStirred.apart()I
set_option maxRecDepth 1000000 in
set_option maxHeartbeats 8000000 in
theorem t_89_0 (call : Nat → List Value → Sto → Option Rr) (again : Nat → j_L → List Value → Sto → Option Rr) (σ : Sto) (v0 : Nat) :
    j_seg k_89 h_89 call again 2000 0 [some (.ref v0)] [] σ =
    j_gP σ 6 v0 4 (fun a1 =>
    j_gP σ 6 v0 3 (fun a2 =>
    j_oc σ 0 a1 (j_c1 call 16 [.ref a1, .ref a2] σ (fun x4 τ3 =>
    some (some (.int x4), τ3))))) := rfl

-- LastStirred.keep(I)I
set_option maxRecDepth 1000000 in
set_option maxHeartbeats 8000000 in
theorem t_90_0 (call : Nat → List Value → Sto → Option Rr) (again : Nat → j_L → List Value → Sto → Option Rr) (σ : Sto) (v0 : Nat) (v1 : Int32) :
    j_seg k_90 h_90 call again 2000 0 [some (.ref v0), some (.int v1)] [] σ =
    j_oc σ 6 v0 (j_c1 call 119 [.ref v0, .int v1] σ (fun x2 τ1 =>
    if x2 = 0 then (some (some (.int (j_k (-1))), τ1))
    else j_gP τ1 6 v0 3 (fun a3 =>
    j_oc τ1 1 a3 (if (s_I τ1 a3 5) = 0 then (some (some (.int (j_k (-4))), τ1))
    else j_gP τ1 6 v0 5 (fun a4 =>
    j_qa τ1 a4 v1 (fun a5 =>
    j_gP τ1 6 v0 4 (fun a6 =>
    j_oc τ1 0 a5 (j_c0 call 3 [.ref a5, .ref a6] τ1 (fun τ7 =>
    j_oc τ7 6 v0 (if v0 < j_b then j_oc τ7 6 v0 (let τ8 : Sto := s_uI τ7 v0 11 ((s_I τ7 v0 11) ||| ((j_k 1) <<< (v1 &&& 31)));
    j_gP τ8 6 v0 4 (fun a9 =>
    j_oc τ8 0 a9 (some (some (.int (s_I τ8 a9 8)), τ8)))) else none)))))))))) := rfl

-- LastStirred.on(I)I
set_option maxRecDepth 1000000 in
set_option maxHeartbeats 8000000 in
theorem t_91_0 (call : Nat → List Value → Sto → Option Rr) (again : Nat → j_L → List Value → Sto → Option Rr) (σ : Sto) (v0 : Nat) (v1 : Int32) :
    j_seg k_91 h_91 call again 2000 0 [some (.ref v0), some (.int v1)] [] σ =
    j_oc σ 6 v0 (j_c1 call 119 [.ref v0, .int v1] σ (fun x2 τ1 =>
    if x2 = 0 then (some (some (.int (j_k (-1))), τ1))
    else j_oc τ1 6 v0 (j_c1 call 120 [.ref v0, .int v1] τ1 (fun x4 τ3 =>
    if x4 = 0 then (j_oc τ3 6 v0 (j_c1 call 112 [.ref v0, .int (j_k 1)] τ3 (fun x6 τ5 =>
     some (some (.int x6), τ5))))
    else j_gP τ3 6 v0 4 (fun a7 =>
    j_gP τ3 6 v0 5 (fun a8 =>
    j_qa τ3 a8 v1 (fun a9 =>
    j_oc τ3 0 a7 (j_c0 call 3 [.ref a7, .ref a9] τ3 (fun τ10 =>
    j_gP τ10 6 v0 4 (fun a11 =>
    j_oc τ10 0 a11 (some (some (.int (s_I τ10 a11 8)), τ10)))))))))))) := rfl

-- LastStirred.fewest()I
set_option maxRecDepth 1000000 in
set_option maxHeartbeats 8000000 in
theorem t_92_0 (call : Nat → List Value → Sto → Option Rr) (again : Nat → j_L → List Value → Sto → Option Rr) (σ : Sto) (v0 : Nat) :
    j_seg k_92 h_92 call again 2000 0 [some (.ref v0), none] [] σ =
    j_gP σ 6 v0 3 (fun a1 =>
    j_oc σ 1 a1 (if (s_I σ a1 5) = 0 then (some (some (.int (j_k (-4))), σ))
    else j_gP σ 6 v0 8 (fun a2 =>
    j_oc σ 3 a2 (j_c0 call 52 [.ref a2] σ (fun τ3 =>
    j_gP τ3 6 v0 8 (fun a4 =>
    j_gP τ3 6 v0 3 (fun a5 =>
    j_gP τ3 6 v0 4 (fun a6 =>
    j_oc τ3 3 a4 (j_c1 call 54 [.ref a4, .ref a5, .ref a6, .int (j_k 3)] τ3 (fun x8 τ7 =>
    if x8 = (j_k (-9)) then (some (some (.int x8), τ7))
    else j_gP τ7 6 v0 8 (fun a9 =>
    j_oc τ7 3 a9 (if v0 < j_b then j_oc τ7 6 v0 (let τ10 : Sto := s_uI τ7 v0 13 (s_I τ7 a9 6);
    some (some (.int x8), τ10)) else none)))))))))))) := rfl

-- LastStirred.gather()I
set_option maxRecDepth 1000000 in
set_option maxHeartbeats 8000000 in
theorem t_94_0 (call : Nat → List Value → Sto → Option Rr) (again : Nat → j_L → List Value → Sto → Option Rr) (σ : Sto) (v0 : Nat) :
    j_seg k_94 h_94 call again 2000 0 [some (.ref v0), none, none, none, none, none] [] σ =
    j_gP σ 6 v0 4 (fun a1 =>
    j_oc σ 0 a1 (j_c1 call 14 [.ref a1] σ (fun x3 τ2 =>
    again 16 [some (.ref v0), some (.int (j_k (-9))), some (.int (j_k 0)), some (.int x3), some (.int (j_k 0)), none] [] τ2))) := rfl

set_option maxRecDepth 1000000 in
set_option maxHeartbeats 8000000 in
theorem t_94_16 (call : Nat → List Value → Sto → Option Rr) (again : Nat → j_L → List Value → Sto → Option Rr) (σ : Sto) (v0 : Nat) (v1 : Int32) (v2 : Int32) (v3 : Int32) (v4 : Int32) :
    j_seg k_94 h_94 call again 2000 16 [some (.ref v0), some (.int v1), some (.int v2), some (.int v3), some (.int v4), none] [] σ =
    j_gP σ 6 v0 4 (fun a1 =>
    j_oc σ 0 a1 (j_c1 call 13 [.ref a1] σ (fun x3 τ2 =>
    if v4 < x3 then (j_oc τ2 6 v0 (j_c1 call 123 [.ref v0, .int v4] τ2 (fun x5 τ4 =>
     if x5 = 0 then (again 16 [some (.ref v0), some (.int v1), some (.int v2), some (.int v3), some (.int (v4 + (j_k 1))), none] [] τ4)
     else j_gP τ4 6 v0 6 (fun a6 =>
     j_oc τ4 0 a6 (j_c1 call 14 [.ref a6] τ4 (fun x8 τ7 =>
     if v3 < x8 then (again 16 [some (.ref v0), some (.int v1), some (.int v2), some (.int v3), some (.int (v4 + (j_k 1))), none] [] τ7)
     else j_gP τ7 6 v0 6 (fun a9 =>
     j_gP τ7 6 v0 3 (fun a10 =>
     j_oc τ7 0 a9 (j_c1 call 16 [.ref a9, .ref a10] τ7 (fun x12 τ11 =>
     if v1 = (j_k (-9)) then (again 16 [some (.ref v0), some (.int v4), some (.int x12), some (.int v3), some (.int (v4 + (j_k 1))), none] [] τ11)
     else if x12 < v2 then (again 16 [some (.ref v0), some (.int v4), some (.int x12), some (.int v3), some (.int (v4 + (j_k 1))), none] [] τ11)
     else again 16 [some (.ref v0), some (.int v1), some (.int v2), some (.int v3), some (.int (v4 + (j_k 1))), none] [] τ11))))))))))
    else if v1 = (j_k (-9)) then (some (some (.int v1), τ2))
    else if v0 < j_b then j_oc τ2 6 v0 (let τ13 : Sto := s_uI τ2 v0 13 v2;
    some (some (.int v1), τ13)) else none))) := rfl

-- LastStirred.never()I
set_option maxRecDepth 1000000 in
set_option maxHeartbeats 8000000 in
theorem t_100_0 (call : Nat → List Value → Sto → Option Rr) (again : Nat → j_L → List Value → Sto → Option Rr) (σ : Sto) (v0 : Nat) :
    j_seg k_100 h_100 call again 2000 0 [some (.ref v0), none, none, none, none] [] σ =
    if v0 < j_b then j_oc σ 6 v0 (let τ1 : Sto := s_uI σ v0 13 (j_k (-9));
    again 10 [some (.ref v0), some (.int (j_k 0)), some (.int (j_k 0)), none, none] [] τ1) else none := rfl

set_option maxRecDepth 1000000 in
set_option maxHeartbeats 8000000 in
theorem t_100_10 (call : Nat → List Value → Sto → Option Rr) (again : Nat → j_L → List Value → Sto → Option Rr) (σ : Sto) (v0 : Nat) (v1 : Int32) (v2 : Int32) :
    j_seg k_100 h_100 call again 2000 10 [some (.ref v0), some (.int v1), some (.int v2), none, none] [] σ =
    j_gP σ 6 v0 4 (fun a1 =>
    j_oc σ 0 a1 (if v2 < (s_I σ a1 3) then (j_gP σ 6 v0 4 (fun a2 =>
     j_oc σ 0 a2 (j_c1 call 6 [.ref a2, .int v2] σ (fun x4 τ3 =>
     if x4 = 0 then (j_gP τ3 6 v0 3 (fun a5 =>
      j_gP τ3 6 v0 4 (fun a6 =>
      j_gP τ3 0 a6 1 (fun a7 =>
      j_ia τ3 a7 v2 (
      j_oc τ3 1 a5 (j_c1 call 40 [.ref a5, .int (s_I τ3 a7 v2.toNatClampNeg), .int (j_k 1)] τ3 (fun x9 τ8 =>
      again 58 [some (.ref v0), some (.int v1), some (.int v2), some (.int x9), some (.int (v2 + (j_k 1)))] [] τ8)))))))
     else again 10 [some (.ref v0), some (.int v1), some (.int (v2 + (j_k 1))), none, none] [] τ3))))
    else some (some (.int v1), σ))) := rfl

set_option maxRecDepth 1000000 in
set_option maxHeartbeats 8000000 in
theorem t_100_58 (call : Nat → List Value → Sto → Option Rr) (again : Nat → j_L → List Value → Sto → Option Rr) (σ : Sto) (v0 : Nat) (v1 : Int32) (v2 : Int32) (v3 : Int32) (v4 : Int32) :
    j_seg k_100 h_100 call again 2000 58 [some (.ref v0), some (.int v1), some (.int v2), some (.int v3), some (.int v4)] [] σ =
    j_gP σ 6 v0 4 (fun a1 =>
    j_oc σ 0 a1 (if v4 < (s_I σ a1 3) then (j_gP σ 6 v0 4 (fun a2 =>
     j_oc σ 0 a2 (j_c1 call 6 [.ref a2, .int v4] σ (fun x4 τ3 =>
     if x4 = 0 then (j_gP τ3 6 v0 4 (fun a5 =>
      j_gP τ3 0 a5 1 (fun a6 =>
      j_ia τ3 a6 v4 (
      if ((v3 >>> ((s_I τ3 a6 v4.toNatClampNeg) &&& 31)) &&& (j_k 1)) = (j_k 1) then (again 58 [some (.ref v0), some (.int v1), some (.int v2), some (.int v3), some (.int (v4 + (j_k 1)))] [] τ3)
      else if v1 = 0 then (if v0 < j_b then j_oc τ3 6 v0 (let τ7 : Sto := s_uI τ3 v0 13 (((j_k 10) * v2) + v4);
       again 58 [some (.ref v0), some (.int (v1 + (j_k 1))), some (.int v2), some (.int v3), some (.int (v4 + (j_k 1)))] [] τ7) else none)
      else again 58 [some (.ref v0), some (.int (v1 + (j_k 1))), some (.int v2), some (.int v3), some (.int (v4 + (j_k 1)))] [] τ3))))
     else again 58 [some (.ref v0), some (.int v1), some (.int v2), some (.int v3), some (.int (v4 + (j_k 1)))] [] τ3))))
    else again 10 [some (.ref v0), some (.int v1), some (.int (v2 + (j_k 1))), none, none] [] σ)) := rfl

-- LastStirred.dawn(I)I
set_option maxRecDepth 1000000 in
set_option maxHeartbeats 8000000 in
theorem t_102_0 (call : Nat → List Value → Sto → Option Rr) (again : Nat → j_L → List Value → Sto → Option Rr) (σ : Sto) (v0 : Nat) (v1 : Int32) :
    j_seg k_102 h_102 call again 2000 0 [some (.ref v0), some (.int v1), none, none] [] σ =
    j_oc σ 6 v0 (j_c1 call 116 [.ref v0, .int v1] σ (fun x2 τ1 =>
    if x2 = 0 then (j_gP τ1 6 v0 8 (fun a3 =>
     j_gP τ1 6 v0 0 (fun a4 =>
     j_gP τ1 4 a4 0 (fun a5 =>
     j_qa τ1 a5 v1 (fun a6 =>
     j_oc τ1 3 a3 (j_c0 call 53 [.ref a3, .ref a6] τ1 (fun τ7 =>
     j_gP τ7 6 v0 8 (fun a8 =>
     j_gP τ7 6 v0 3 (fun a9 =>
     j_gP τ7 6 v0 4 (fun a10 =>
     j_oc τ7 3 a8 (j_c1 call 54 [.ref a8, .ref a9, .ref a10, .int (j_k 2)] τ7 (fun x12 τ11 =>
     if x12 = (j_k (-9)) then (some (some (.int x12), τ11))
     else j_gP τ11 6 v0 8 (fun a13 =>
     j_oc τ11 3 a13 (if v0 < j_b then j_oc τ11 6 v0 (let τ14 : Sto := s_uI τ11 v0 13 (s_I τ11 a13 5);
     some (some (.int x12), τ14)) else none))))))))))))))
    else some (some (.int x2), τ1))) := rfl

-- LastStirred.who(I)I
set_option maxRecDepth 1000000 in
set_option maxHeartbeats 8000000 in
theorem t_103_0 (call : Nat → List Value → Sto → Option Rr) (again : Nat → j_L → List Value → Sto → Option Rr) (σ : Sto) (v0 : Nat) (v1 : Int32) :
    j_seg k_103 h_103 call again 2000 0 [some (.ref v0), some (.int v1), none, none] [] σ =
    j_oc σ 6 v0 (j_c1 call 116 [.ref v0, .int v1] σ (fun x2 τ1 =>
    if x2 = 0 then (j_gP τ1 6 v0 8 (fun a3 =>
     j_gP τ1 6 v0 0 (fun a4 =>
     j_gP τ1 4 a4 0 (fun a5 =>
     j_qa τ1 a5 v1 (fun a6 =>
     j_oc τ1 3 a3 (j_c0 call 53 [.ref a3, .ref a6] τ1 (fun τ7 =>
     j_gP τ7 6 v0 8 (fun a8 =>
     j_gP τ7 6 v0 3 (fun a9 =>
     j_gP τ7 6 v0 4 (fun a10 =>
     j_oc τ7 3 a8 (j_c1 call 54 [.ref a8, .ref a9, .ref a10, .int (j_k 2)] τ7 (fun x12 τ11 =>
     if x12 = (j_k (-9)) then (some (some (.int (j_k (-9))), τ11))
     else if x12 = 0 then (some (some (.int (j_k (-9))), τ11))
     else j_gP τ11 6 v0 8 (fun a13 =>
     j_oc τ11 3 a13 (if v0 < j_b then j_oc τ11 6 v0 (let τ14 : Sto := s_uI τ11 v0 13 (s_I τ11 a13 8);
     j_gP τ14 6 v0 8 (fun a15 =>
     j_oc τ14 3 a15 (some (some (.int (s_I τ14 a15 7)), τ14)))) else none))))))))))))))
    else some (some (.int x2), τ1))) := rfl

-- LastStirred.asked()I
set_option maxRecDepth 1000000 in
set_option maxHeartbeats 8000000 in
theorem t_105_0 (call : Nat → List Value → Sto → Option Rr) (again : Nat → j_L → List Value → Sto → Option Rr) (σ : Sto) (v0 : Nat) :
    j_seg k_105 h_105 call again 2000 0 [some (.ref v0)] [] σ =
    j_oc σ 6 v0 (some (some (.int (s_I σ v0 13)), σ)) := rfl

-- LastStirred.count(I)I
set_option maxRecDepth 1000000 in
set_option maxHeartbeats 8000000 in
theorem t_108_0 (call : Nat → List Value → Sto → Option Rr) (again : Nat → j_L → List Value → Sto → Option Rr) (σ : Sto) (v0 : Nat) (v1 : Int32) :
    j_seg k_108 h_108 call again 2000 0 [some (.ref v0), some (.int v1)] [] σ =
    if v1 = (j_k 0) then (j_gP σ 6 v0 3 (fun a1 =>
     j_oc σ 1 a1 (some (some (.int (s_I σ a1 5)), σ))))
    else if v1 = (j_k 1) then (j_gP σ 6 v0 4 (fun a2 =>
     j_oc σ 0 a2 (some (some (.int (s_I σ a2 3)), σ))))
    else if v1 = (j_k 2) then (j_gP σ 6 v0 4 (fun a3 =>
     j_oc σ 0 a3 (j_c1 call 14 [.ref a3] σ (fun x5 τ4 =>
     some (some (.int x5), τ4)))))
    else if v1 = (j_k 3) then (j_gP σ 6 v0 4 (fun a6 =>
     j_oc σ 0 a6 (some (some (.int (s_I σ a6 8)), σ))))
    else if v1 = (j_k 4) then (j_gP σ 6 v0 4 (fun a7 =>
     j_oc σ 0 a7 (j_c1 call 15 [.ref a7] σ (fun x9 τ8 =>
     some (some (.int x9), τ8)))))
    else if v1 = (j_k 5) then (j_oc σ 6 v0 (j_c1 call 126 [.int (s_I σ v0 11)] σ (fun x11 τ10 =>
     some (some (.int x11), τ10))))
    else if v1 = (j_k 6) then (j_gP σ 6 v0 0 (fun a12 =>
     j_oc σ 4 a12 (j_c1 call 62 [.ref a12] σ (fun x14 τ13 =>
     some (some (.int x14), τ13)))))
    else if v1 = (j_k 7) then (j_gP σ 6 v0 1 (fun a15 =>
     j_oc σ 4 a15 (j_c1 call 62 [.ref a15] σ (fun x17 τ16 =>
     some (some (.int x17), τ16)))))
    else some (some (.int (j_k (-1))), σ) := rfl

-- LastStirred.digest()J
set_option maxRecDepth 1000000 in
set_option maxHeartbeats 8000000 in
theorem t_111_0 (call : Nat → List Value → Sto → Option Rr) (again : Nat → j_L → List Value → Sto → Option Rr) (σ : Sto) (v0 : Nat) :
    j_seg k_111 h_111 call again 2000 0 [some (.ref v0), none, none, none, none] [] σ =
    again 6 [some (.ref v0), some (.long (j_cJ 1)), none, some (.int (j_k 0)), none] [] σ := rfl

set_option maxRecDepth 1000000 in
set_option maxHeartbeats 8000000 in
theorem t_111_6 (call : Nat → List Value → Sto → Option Rr) (again : Nat → j_L → List Value → Sto → Option Rr) (σ : Sto) (v0 : Nat) (v1 : Int64) (v3 : Int32) :
    j_seg k_111 h_111 call again 2000 6 [some (.ref v0), some (.long v1), none, some (.int v3), none] [] σ =
    if v3 < (j_k 8) then (j_oc σ 6 v0 (j_c1 call 108 [.ref v0, .int v3] σ (fun x2 τ1 =>
     again 6 [some (.ref v0), some (.long (((j_cJ 2) * v1) + x2.toInt64)), none, some (.int (v3 + (j_k 1))), none] [] τ1)))
    else again 33 [some (.ref v0), some (.long v1), none, some (.int (j_k 0)), none] [] σ := rfl

set_option maxRecDepth 1000000 in
set_option maxHeartbeats 8000000 in
theorem t_111_33 (call : Nat → List Value → Sto → Option Rr) (again : Nat → j_L → List Value → Sto → Option Rr) (σ : Sto) (v0 : Nat) (v1 : Int64) (v3 : Int32) :
    j_seg k_111 h_111 call again 2000 33 [some (.ref v0), some (.long v1), none, some (.int v3), none] [] σ =
    j_gP σ 6 v0 3 (fun a1 =>
    j_oc σ 1 a1 (if v3 < (s_I σ a1 5) then (j_gP σ 6 v0 3 (fun a2 =>
     j_gP σ 1 a2 0 (fun a3 =>
     j_ia σ a3 v3 (
     again 33 [some (.ref v0), some (.long (((j_cJ 2) * v1) + (s_I σ a3 v3.toNatClampNeg).toInt64)), none, some (.int (v3 + (j_k 1))), none] [] σ))))
    else again 69 [some (.ref v0), some (.long v1), none, some (.int (j_k 0)), none] [] σ)) := rfl

set_option maxRecDepth 1000000 in
set_option maxHeartbeats 8000000 in
theorem t_111_69 (call : Nat → List Value → Sto → Option Rr) (again : Nat → j_L → List Value → Sto → Option Rr) (σ : Sto) (v0 : Nat) (v1 : Int64) (v3 : Int32) :
    j_seg k_111 h_111 call again 2000 69 [some (.ref v0), some (.long v1), none, some (.int v3), none] [] σ =
    j_gP σ 6 v0 4 (fun a1 =>
    j_oc σ 0 a1 (if v3 < (s_I σ a1 3) then (again 83 [some (.ref v0), some (.long v1), none, some (.int v3), some (.int (j_k 0))] [] σ)
    else j_gP σ 6 v0 4 (fun a2 =>
    j_oc σ 0 a2 (j_gP σ 6 v0 4 (fun a3 =>
    j_oc σ 0 a3 (j_gP σ 6 v0 4 (fun a4 =>
    j_oc σ 0 a4 (j_gP σ 6 v0 4 (fun a5 =>
    j_oc σ 0 a5 (again 181 [some (.ref v0), some (.long (((j_cJ 2) * (((j_cJ 2) * (((j_cJ 2) * (((j_cJ 2) * v1) + (s_I σ a2 4).toInt64)) + (s_I σ a3 5).toInt64)) + (s_I σ a4 6).toInt64)) + (s_I σ a5 7).toInt64)), none, some (.int (j_k 0)), none] [] σ)))))))))) := rfl

set_option maxRecDepth 1000000 in
set_option maxHeartbeats 8000000 in
theorem t_111_83 (call : Nat → List Value → Sto → Option Rr) (again : Nat → j_L → List Value → Sto → Option Rr) (σ : Sto) (v0 : Nat) (v1 : Int64) (v3 : Int32) (v4 : Int32) :
    j_seg k_111 h_111 call again 2000 83 [some (.ref v0), some (.long v1), none, some (.int v3), some (.int v4)] [] σ =
    if v4 < (j_k 3) then (j_gP σ 6 v0 4 (fun a1 =>
     j_oc σ 0 a1 (j_c1 call 12 [.ref a1, .int v3, .int v4] σ (fun x3 τ2 =>
     again 83 [some (.ref v0), some (.long (((j_cJ 2) * v1) + x3.toInt64)), none, some (.int v3), some (.int (v4 + (j_k 1)))] [] τ2))))
    else again 69 [some (.ref v0), some (.long v1), none, some (.int (v3 + (j_k 1))), none] [] σ := rfl

set_option maxRecDepth 1000000 in
set_option maxHeartbeats 8000000 in
theorem t_111_181 (call : Nat → List Value → Sto → Option Rr) (again : Nat → j_L → List Value → Sto → Option Rr) (σ : Sto) (v0 : Nat) (v1 : Int64) (v3 : Int32) :
    j_seg k_111 h_111 call again 2000 181 [some (.ref v0), some (.long v1), none, some (.int v3), none] [] σ =
    j_gP σ 6 v0 5 (fun a1 =>
    j_len σ a1 (fun n2 =>
    if v3 < n2 then (j_oc σ 6 v0 (j_c1 call 120 [.ref v0, .int v3] σ (fun x4 τ3 =>
     if x4 = 0 then (again 181 [some (.ref v0), some (.long (((j_cJ 2) * v1) + (j_k (-1)).toInt64)), none, some (.int (v3 + (j_k 1))), none] [] τ3)
     else j_gP τ3 6 v0 5 (fun a5 =>
     j_qa τ3 a5 v3 (fun a6 =>
     j_oc τ3 0 a6 (again 181 [some (.ref v0), some (.long (((j_cJ 2) * v1) + (s_I τ3 a6 8).toInt64)), none, some (.int (v3 + (j_k 1))), none] [] τ3))))))
    else j_gP σ 6 v0 1 (fun a7 =>
    j_gP σ 6 v0 0 (fun a8 =>
    j_oc σ 4 a8 (j_c2 call 63 [.ref a8, .long v1] σ (fun x10 τ9 =>
    j_oc τ9 4 a7 (j_c2 call 63 [.ref a7, .long x10] τ9 (fun x12 τ11 =>
    some (some (.long x12), τ11))))))))) := rfl

-- LastStirred.finds(I)I
set_option maxRecDepth 1000000 in
set_option maxHeartbeats 8000000 in
theorem t_112_0 (call : Nat → List Value → Sto → Option Rr) (again : Nat → j_L → List Value → Sto → Option Rr) (σ : Sto) (v0 : Nat) (v1 : Int32) :
    j_seg k_112 h_112 call again 2000 0 [some (.ref v0), some (.int v1)] [] σ =
    if v0 < j_b then j_oc σ 6 v0 (let τ1 : Sto := s_uI σ v0 12 v1;
    j_gP τ1 6 v0 10 (fun a2 =>
    j_ia τ1 a2 v1 (
    j_is τ1 a2 v1 (let τ3 : Sto := s_uI τ1 a2 v1.toNatClampNeg ((s_I τ1 a2 v1.toNatClampNeg) + (j_k 1));
    some (some (.int (j_k (-3))), τ3))))) else none := rfl

-- LastStirred.makeIn(LLastStirred$Shelf;III)I
set_option maxRecDepth 1000000 in
set_option maxHeartbeats 8000000 in
theorem t_113_0 (call : Nat → List Value → Sto → Option Rr) (again : Nat → j_L → List Value → Sto → Option Rr) (σ : Sto) (v0 : Nat) (v1 : Nat) (v2 : Int32) (v3 : Int32) (v4 : Int32) :
    j_seg k_113 h_113 call again 2000 0 [some (.ref v0), some (.ref v1), some (.int v2), some (.int v3), some (.int v4)] [] σ =
    j_oc σ 4 v1 (j_c1 call 60 [.ref v1, .int v2] σ (fun x2 τ1 =>
    if x2 = 0 then (some (some (.int (j_k (-1))), τ1))
    else j_gP τ1 4 v1 0 (fun a3 =>
    j_qa τ1 a3 v2 (fun a4 =>
    j_len τ1 a4 (fun n5 =>
    if n5 < v3 then (some (some (.int (j_k (-1))), τ1))
    else if v3 < 0 then (j_oc τ1 6 v0 (j_c1 call 112 [.ref v0, .int (j_k 5)] τ1 (fun x7 τ6 =>
     some (some (.int x7), τ6))))
    else j_oc τ1 4 v1 (j_c0 call 61 [.ref v1, .int v2, .int v3, .int v4] τ1 (fun τ8 =>
    some (some (.int v3), τ8)))))))) := rfl

-- LastStirred.refusedMissing(LLastStirred$Shelf;I)I
set_option maxRecDepth 1000000 in
set_option maxHeartbeats 8000000 in
theorem t_114_0 (call : Nat → List Value → Sto → Option Rr) (again : Nat → j_L → List Value → Sto → Option Rr) (σ : Sto) (v0 : Nat) (v1 : Nat) (v2 : Int32) :
    j_seg k_114 h_114 call again 2000 0 [some (.ref v0), some (.ref v1), some (.int v2)] [] σ =
    j_oc σ 4 v1 (j_c1 call 60 [.ref v1, .int v2] σ (fun x2 τ1 =>
    if x2 = 0 then (some (some (.int (j_k (-1))), τ1))
    else j_gP τ1 4 v1 1 (fun a3 =>
    j_ia τ1 a3 v2 (
    if (s_I τ1 a3 v2.toNatClampNeg) = (j_k (-1)) then (j_oc τ1 6 v0 (j_c1 call 112 [.ref v0, .int (j_k 1)] τ1 (fun x5 τ4 =>
     some (some (.int x5), τ4))))
    else some (some (.int (j_k 0)), τ1))))) := rfl

-- LastStirred.refusedPlace(LLastStirred$Shelf;II)I
set_option maxRecDepth 1000000 in
set_option maxHeartbeats 8000000 in
theorem t_115_0 (call : Nat → List Value → Sto → Option Rr) (again : Nat → j_L → List Value → Sto → Option Rr) (σ : Sto) (v0 : Nat) (v1 : Nat) (v2 : Int32) (v3 : Int32) :
    j_seg k_115 h_115 call again 2000 0 [some (.ref v0), some (.ref v1), some (.int v2), some (.int v3), none] [] σ =
    j_oc σ 6 v0 (j_c1 call 114 [.ref v0, .ref v1, .int v2] σ (fun x2 τ1 =>
    if x2 = 0 then (if v3 < 0 then (j_oc τ1 6 v0 (j_c1 call 112 [.ref v0, .int (j_k 2)] τ1 (fun x4 τ3 =>
      some (some (.int x4), τ3))))
     else j_gP τ1 4 v1 1 (fun a5 =>
     j_ia τ1 a5 v2 (
     if v3 < (s_I τ1 a5 v2.toNatClampNeg) then (some (some (.int (j_k 0)), τ1))
     else j_oc τ1 6 v0 (j_c1 call 112 [.ref v0, .int (j_k 2)] τ1 (fun x7 τ6 =>
     some (some (.int x7), τ6))))))
    else some (some (.int x2), τ1))) := rfl

-- LastStirred.refusedDawn(I)I
set_option maxRecDepth 1000000 in
set_option maxHeartbeats 8000000 in
theorem t_116_0 (call : Nat → List Value → Sto → Option Rr) (again : Nat → j_L → List Value → Sto → Option Rr) (σ : Sto) (v0 : Nat) (v1 : Int32) :
    j_seg k_116 h_116 call again 2000 0 [some (.ref v0), some (.int v1), none, none, none] [] σ =
    j_gP σ 6 v0 0 (fun a1 =>
    j_oc σ 6 v0 (j_c1 call 114 [.ref v0, .ref a1, .int v1] σ (fun x3 τ2 =>
    if x3 = 0 then (j_gP τ2 6 v0 0 (fun a4 =>
     j_gP τ2 4 a4 1 (fun a5 =>
     j_ia τ2 a5 v1 (
     j_gP τ2 6 v0 4 (fun a6 =>
     j_oc τ2 0 a6 (if (s_I τ2 a5 v1.toNatClampNeg) = (s_I τ2 a6 3) then (again 43 [some (.ref v0), some (.int v1), some (.int x3), some (.int (j_k 0)), none] [] τ2)
     else j_oc τ2 6 v0 (j_c1 call 112 [.ref v0, .int (j_k 5)] τ2 (fun x8 τ7 =>
     some (some (.int x8), τ7)))))))))
    else some (some (.int x3), τ2)))) := rfl

set_option maxRecDepth 1000000 in
set_option maxHeartbeats 8000000 in
theorem t_116_43 (call : Nat → List Value → Sto → Option Rr) (again : Nat → j_L → List Value → Sto → Option Rr) (σ : Sto) (v0 : Nat) (v1 : Int32) (v2 : Int32) (v3 : Int32) :
    j_seg k_116 h_116 call again 2000 43 [some (.ref v0), some (.int v1), some (.int v2), some (.int v3), none] [] σ =
    j_gP σ 6 v0 4 (fun a1 =>
    j_oc σ 0 a1 (if v3 < (s_I σ a1 3) then (j_gP σ 6 v0 0 (fun a2 =>
     j_gP σ 4 a2 0 (fun a3 =>
     j_qa σ a3 v1 (fun a4 =>
     j_ia σ a4 v3 (
     if (s_I σ a4 v3.toNatClampNeg) = (j_k (-9)) then (again 43 [some (.ref v0), some (.int v1), some (.int v2), some (.int (v3 + (j_k 1))), none] [] σ)
     else j_gP σ 6 v0 3 (fun a5 =>
     j_oc σ 1 a5 (j_c1 call 35 [.ref a5, .int (s_I σ a4 v3.toNatClampNeg)] σ (fun x7 τ6 =>
     if x7 = 0 then (j_oc τ6 6 v0 (j_c1 call 112 [.ref v0, .int (j_k 3)] τ6 (fun x9 τ8 =>
      some (some (.int x9), τ8))))
     else again 43 [some (.ref v0), some (.int v1), some (.int v2), some (.int (v3 + (j_k 1))), none] [] τ6))))))))
    else some (some (.int (j_k 0)), σ))) := rfl

-- LastStirred.isWay(I)Z
set_option maxRecDepth 1000000 in
set_option maxHeartbeats 8000000 in
theorem t_118_0 (call : Nat → List Value → Sto → Option Rr) (again : Nat → j_L → List Value → Sto → Option Rr) (σ : Sto) (v0 : Int32) :
    j_seg k_118 h_118 call again 2000 0 [some (.int v0)] [] σ =
    if v0 < 0 then (if (j_k 0) = 0 ∨ (j_k 0) = 1 then some (some (.int (j_k 0)), σ) else none)
    else if v0 < (j_k 4) then (if (j_k 1) = 0 ∨ (j_k 1) = 1 then some (some (.int (j_k 1)), σ) else none)
    else if (j_k 0) = 0 ∨ (j_k 0) = 1 then some (some (.int (j_k 0)), σ) else none := rfl

-- LastStirred.isPlace(I)Z
set_option maxRecDepth 1000000 in
set_option maxHeartbeats 8000000 in
theorem t_119_0 (call : Nat → List Value → Sto → Option Rr) (again : Nat → j_L → List Value → Sto → Option Rr) (σ : Sto) (v0 : Nat) (v1 : Int32) :
    j_seg k_119 h_119 call again 2000 0 [some (.ref v0), some (.int v1)] [] σ =
    if v1 < 0 then (if (j_k 0) = 0 ∨ (j_k 0) = 1 then some (some (.int (j_k 0)), σ) else none)
    else j_gP σ 6 v0 5 (fun a1 =>
    j_len σ a1 (fun n2 =>
    if v1 < n2 then (if (j_k 1) = 0 ∨ (j_k 1) = 1 then some (some (.int (j_k 1)), σ) else none)
    else if (j_k 0) = 0 ∨ (j_k 0) = 1 then some (some (.int (j_k 0)), σ) else none)) := rfl

-- LastStirred.isKept(I)Z
set_option maxRecDepth 1000000 in
set_option maxHeartbeats 8000000 in
theorem t_120_0 (call : Nat → List Value → Sto → Option Rr) (again : Nat → j_L → List Value → Sto → Option Rr) (σ : Sto) (v0 : Nat) (v1 : Int32) :
    j_seg k_120 h_120 call again 2000 0 [some (.ref v0), some (.int v1)] [] σ =
    j_oc σ 6 v0 (if (((s_I σ v0 11) >>> (v1 &&& 31)) &&& (j_k 1)) = (j_k 1) then (if (j_k 1) = 0 ∨ (j_k 1) = 1 then some (some (.int (j_k 1)), σ) else none)
    else if (j_k 0) = 0 ∨ (j_k 0) = 1 then some (some (.int (j_k 0)), σ) else none) := rfl

-- LastStirred.tryDrive(I)Z
set_option maxRecDepth 1000000 in
set_option maxHeartbeats 8000000 in
theorem t_123_0 (call : Nat → List Value → Sto → Option Rr) (again : Nat → j_L → List Value → Sto → Option Rr) (σ : Sto) (v0 : Nat) (v1 : Int32) :
    j_seg k_123 h_123 call again 2000 0 [some (.ref v0), some (.int v1)] [] σ =
    j_gP σ 6 v0 6 (fun a1 =>
    j_gP σ 6 v0 4 (fun a2 =>
    j_oc σ 0 a1 (j_c0 call 3 [.ref a1, .ref a2] σ (fun τ3 =>
    j_gP τ3 6 v0 6 (fun a4 =>
    j_gP τ3 6 v0 3 (fun a5 =>
    j_oc τ3 0 a4 (j_c1 call 29 [.ref a4, .ref a5, .int v1] τ3 (fun x7 τ6 =>
    if x7 = 0 ∨ x7 = 1 then some (some (.int x7), τ6) else none)))))))) := rfl

-- LastStirred.placeOf([II)I
set_option maxRecDepth 1000000 in
set_option maxHeartbeats 8000000 in
theorem t_125_0 (call : Nat → List Value → Sto → Option Rr) (again : Nat → j_L → List Value → Sto → Option Rr) (σ : Sto) (v0 : Nat) (v1 : Int32) :
    j_seg k_125 h_125 call again 2000 0 [some (.ref v0), some (.int v1), none] [] σ =
    again 2 [some (.ref v0), some (.int v1), some (.int (j_k 0))] [] σ := rfl

set_option maxRecDepth 1000000 in
set_option maxHeartbeats 8000000 in
theorem t_125_2 (call : Nat → List Value → Sto → Option Rr) (again : Nat → j_L → List Value → Sto → Option Rr) (σ : Sto) (v0 : Nat) (v1 : Int32) (v2 : Int32) :
    j_seg k_125 h_125 call again 2000 2 [some (.ref v0), some (.int v1), some (.int v2)] [] σ =
    j_len σ v0 (fun n1 =>
    if v2 < n1 then (j_ia σ v0 v2 (
     if (s_I σ v0 v2.toNatClampNeg) = v1 then (some (some (.int v2), σ))
     else again 2 [some (.ref v0), some (.int v1), some (.int (v2 + (j_k 1)))] [] σ))
    else some (some (.int (j_k (-9))), σ)) := rfl

