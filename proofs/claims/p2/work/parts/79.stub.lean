noncomputable def flatL (as : List AV) : List AV := List.rec (motive := fun _ => List AV) [] (fun a _ ih => Bool.rec (a :: ih) (a :: vW 3 :: ih) (isC2 a)) as
noncomputable def iniL (nL : Nat) (as : List AV) : List AV := flatL as ++ repA (vW 3) (nL - (flatL as).length)
