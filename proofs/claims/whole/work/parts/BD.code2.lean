/-! ===== the cases behind ===== -/
theorem ky_30 (b L : Nat) (xs : Nat → Int32) : sKey (cL_30 (b := b) (L := L) (xs := xs)) = sKey (cL_30 (b := 0) (L := 0) (xs := fun _ => 0)) := by simp only [cL_30, sk_seq, sk_blk, sk_E, sk_lift, sk_sld, sk_callH, aArg, aBol, aThr, aTI, aTJ, aTZ, aTD]
theorem ok_30 (b L : Nat) (xs : Nat → Int32) : cOK 1731 1744 (cL_30 (b := b) (L := L) (xs := xs)) := cOK_of (ky_30 b L xs) (by decide +kernel)
theorem ky_31 (b L : Nat) (xs : Nat → Int32) : sKey (cL_31 (b := b) (L := L) (xs := xs)) = sKey (cL_31 (b := 0) (L := 0) (xs := fun _ => 0)) := by simp only [cL_31, sk_seq, sk_blk, sk_E, sk_lift, sk_sld, sk_callH, aArg, aBol, aThr, aTI, aTJ, aTZ, aTD]
theorem ok_31 (b L : Nat) (xs : Nat → Int32) : cOK 1744 1781 (cL_31 (b := b) (L := L) (xs := xs)) := cOK_of (ky_31 b L xs) (by decide +kernel)
theorem ky_32 (b L : Nat) (xs : Nat → Int32) : sKey (cL_32 (b := b) (L := L) (xs := xs)) = sKey (cL_32 (b := 0) (L := 0) (xs := fun _ => 0)) := by simp only [cL_32, sk_seq, sk_blk, sk_E, sk_lift, sk_sld, sk_callH, aArg, aBol, aThr, aTI, aTJ, aTZ, aTD]
theorem ok_32 (b L : Nat) (xs : Nat → Int32) : cOK 1781 1794 (cL_32 (b := b) (L := L) (xs := xs)) := cOK_of (ky_32 b L xs) (by decide +kernel)
theorem ky_33 (b L : Nat) (xs : Nat → Int32) : sKey (cL_33 (b := b) (L := L) (xs := xs)) = sKey (cL_33 (b := 0) (L := 0) (xs := fun _ => 0)) := by simp only [cL_33, sk_seq, sk_blk, sk_E, sk_lift, sk_sld, sk_callH, aArg, aBol, aThr, aTI, aTJ, aTZ, aTD]
theorem ok_33 (b L : Nat) (xs : Nat → Int32) : cOK 1794 1850 (cL_33 (b := b) (L := L) (xs := xs)) := cOK_of (ky_33 b L xs) (by decide +kernel)
theorem ky_34 (b L : Nat) (xs : Nat → Int32) : sKey (cL_34 (b := b) (L := L) (xs := xs)) = sKey (cL_34 (b := 0) (L := 0) (xs := fun _ => 0)) := by simp only [cL_34, sk_seq, sk_blk, sk_E, sk_lift, sk_sld, sk_callH, aArg, aBol, aThr, aTI, aTJ, aTZ, aTD]
theorem ok_34 (b L : Nat) (xs : Nat → Int32) : cOK 1850 1918 (cL_34 (b := b) (L := L) (xs := xs)) := cOK_of (ky_34 b L xs) (by decide +kernel)
theorem ky_35 (b L : Nat) (xs : Nat → Int32) : sKey (cL_35 (b := b) (L := L) (xs := xs)) = sKey (cL_35 (b := 0) (L := 0) (xs := fun _ => 0)) := by simp only [cL_35, sk_seq, sk_blk, sk_E, sk_lift, sk_sld, sk_callH, aArg, aBol, aThr, aTI, aTJ, aTZ, aTD]
theorem ok_35 (b L : Nat) (xs : Nat → Int32) : cOK 1918 1931 (cL_35 (b := b) (L := L) (xs := xs)) := cOK_of (ky_35 b L xs) (by decide +kernel)
theorem ky_36 (b L : Nat) (xs : Nat → Int32) : sKey (cL_36 (b := b) (L := L) (xs := xs)) = sKey (cL_36 (b := 0) (L := 0) (xs := fun _ => 0)) := by simp only [cL_36, sk_seq, sk_blk, sk_E, sk_lift, sk_sld, sk_callH, aArg, aBol, aThr, aTI, aTJ, aTZ, aTD]
theorem ok_36 (b L : Nat) (xs : Nat → Int32) : cOK 1931 1999 (cL_36 (b := b) (L := L) (xs := xs)) := cOK_of (ky_36 b L xs) (by decide +kernel)
theorem ky_37 (b L : Nat) (xs : Nat → Int32) : sKey (cL_37 (b := b) (L := L) (xs := xs)) = sKey (cL_37 (b := 0) (L := 0) (xs := fun _ => 0)) := by simp only [cL_37, sk_seq, sk_blk, sk_E, sk_lift, sk_sld, sk_callH, aArg, aBol, aThr, aTI, aTJ, aTZ, aTD]
theorem ok_37 (b L : Nat) (xs : Nat → Int32) : cOK 1999 2055 (cL_37 (b := b) (L := L) (xs := xs)) := cOK_of (ky_37 b L xs) (by decide +kernel)
theorem ky_38 (b L : Nat) (xs : Nat → Int32) : sKey (cL_38 (b := b) (L := L) (xs := xs)) = sKey (cL_38 (b := 0) (L := 0) (xs := fun _ => 0)) := by simp only [cL_38, sk_seq, sk_blk, sk_E, sk_lift, sk_sld, sk_callH, aArg, aBol, aThr, aTI, aTJ, aTZ, aTD]
theorem ok_38 (b L : Nat) (xs : Nat → Int32) : cOK 2055 2098 (cL_38 (b := b) (L := L) (xs := xs)) := cOK_of (ky_38 b L xs) (by decide +kernel)
theorem ky_39 (b L : Nat) (xs : Nat → Int32) : sKey (cL_39 (b := b) (L := L) (xs := xs)) = sKey (cL_39 (b := 0) (L := 0) (xs := fun _ => 0)) := by simp only [cL_39, sk_seq, sk_blk, sk_E, sk_lift, sk_sld, sk_callH, aArg, aBol, aThr, aTI, aTJ, aTZ, aTD]
theorem ok_39 (b L : Nat) (xs : Nat → Int32) : cOK 2098 2154 (cL_39 (b := b) (L := L) (xs := xs)) := cOK_of (ky_39 b L xs) (by decide +kernel)
theorem ky_40 (b L : Nat) (xs : Nat → Int32) : sKey (cL_40 (b := b) (L := L) (xs := xs)) = sKey (cL_40 (b := 0) (L := 0) (xs := fun _ => 0)) := by simp only [cL_40, sk_seq, sk_blk, sk_E, sk_lift, sk_sld, sk_callH, aArg, aBol, aThr, aTI, aTJ, aTZ, aTD]
theorem ok_40 (b L : Nat) (xs : Nat → Int32) : cOK 2154 2195 (cL_40 (b := b) (L := L) (xs := xs)) := cOK_of (ky_40 b L xs) (by decide +kernel)
theorem ky_41 (b L : Nat) (xs : Nat → Int32) : sKey (cL_41 (b := b) (L := L) (xs := xs)) = sKey (cL_41 (b := 0) (L := 0) (xs := fun _ => 0)) := by simp only [cL_41, sk_seq, sk_blk, sk_E, sk_lift, sk_sld, sk_callH, aArg, aBol, aThr, aTI, aTJ, aTZ, aTD]
theorem ok_41 (b L : Nat) (xs : Nat → Int32) : cOK 2195 2251 (cL_41 (b := b) (L := L) (xs := xs)) := cOK_of (ky_41 b L xs) (by decide +kernel)
theorem ky_42 (b L : Nat) (xs : Nat → Int32) : sKey (cL_42 (b := b) (L := L) (xs := xs)) = sKey (cL_42 (b := 0) (L := 0) (xs := fun _ => 0)) := by simp only [cL_42, sk_seq, sk_blk, sk_E, sk_lift, sk_sld, sk_callH, aArg, aBol, aThr, aTI, aTJ, aTZ, aTD]
theorem ok_42 (b L : Nat) (xs : Nat → Int32) : cOK 2251 2264 (cL_42 (b := b) (L := L) (xs := xs)) := cOK_of (ky_42 b L xs) (by decide +kernel)
theorem ky_43 (b L : Nat) (xs : Nat → Int32) : sKey (cL_43 (b := b) (L := L) (xs := xs)) = sKey (cL_43 (b := 0) (L := 0) (xs := fun _ => 0)) := by simp only [cL_43, sk_seq, sk_blk, sk_E, sk_lift, sk_sld, sk_callH, aArg, aBol, aThr, aTI, aTJ, aTZ, aTD]
theorem ok_43 (b L : Nat) (xs : Nat → Int32) : cOK 2264 2320 (cL_43 (b := b) (L := L) (xs := xs)) := cOK_of (ky_43 b L xs) (by decide +kernel)
theorem ky_44 (b L : Nat) (xs : Nat → Int32) : sKey (cL_44 (b := b) (L := L) (xs := xs)) = sKey (cL_44 (b := 0) (L := 0) (xs := fun _ => 0)) := by simp only [cL_44, sk_seq, sk_blk, sk_E, sk_lift, sk_sld, sk_callH, aArg, aBol, aThr, aTI, aTJ, aTZ, aTD]
theorem ok_44 (b L : Nat) (xs : Nat → Int32) : cOK 2320 2376 (cL_44 (b := b) (L := L) (xs := xs)) := cOK_of (ky_44 b L xs) (by decide +kernel)
theorem ky_45 (b L : Nat) (xs : Nat → Int32) : sKey (cL_45 (b := b) (L := L) (xs := xs)) = sKey (cL_45 (b := 0) (L := 0) (xs := fun _ => 0)) := by simp only [cL_45, sk_seq, sk_blk, sk_E, sk_lift, sk_sld, sk_callH, aArg, aBol, aThr, aTI, aTJ, aTZ, aTD]
theorem ok_45 (b L : Nat) (xs : Nat → Int32) : cOK 2376 2389 (cL_45 (b := b) (L := L) (xs := xs)) := cOK_of (ky_45 b L xs) (by decide +kernel)
theorem ky_46 (b L : Nat) (xs : Nat → Int32) : sKey (cL_46 (b := b) (L := L) (xs := xs)) = sKey (cL_46 (b := 0) (L := 0) (xs := fun _ => 0)) := by simp only [cL_46, sk_seq, sk_blk, sk_E, sk_lift, sk_sld, sk_callH, aArg, aBol, aThr, aTI, aTJ, aTZ, aTD]
theorem ok_46 (b L : Nat) (xs : Nat → Int32) : cOK 2389 2469 (cL_46 (b := b) (L := L) (xs := xs)) := cOK_of (ky_46 b L xs) (by decide +kernel)
theorem ky_47 (b L : Nat) (xs : Nat → Int32) : sKey (cL_47 (b := b) (L := L) (xs := xs)) = sKey (cL_47 (b := 0) (L := 0) (xs := fun _ => 0)) := by simp only [cL_47, sk_seq, sk_blk, sk_E, sk_lift, sk_sld, sk_callH, aArg, aBol, aThr, aTI, aTJ, aTZ, aTD]
theorem ok_47 (b L : Nat) (xs : Nat → Int32) : cOK 2469 2525 (cL_47 (b := b) (L := L) (xs := xs)) := cOK_of (ky_47 b L xs) (by decide +kernel)
theorem ky_48 (b L : Nat) (xs : Nat → Int32) : sKey (cL_48 (b := b) (L := L) (xs := xs)) = sKey (cL_48 (b := 0) (L := 0) (xs := fun _ => 0)) := by simp only [cL_48, sk_seq, sk_blk, sk_E, sk_lift, sk_sld, sk_callH, aArg, aBol, aThr, aTI, aTJ, aTZ, aTD]
theorem ok_48 (b L : Nat) (xs : Nat → Int32) : cOK 2525 2581 (cL_48 (b := b) (L := L) (xs := xs)) := cOK_of (ky_48 b L xs) (by decide +kernel)
theorem ky_49 (b L : Nat) (xs : Nat → Int32) : sKey (cL_49 (b := b) (L := L) (xs := xs)) = sKey (cL_49 (b := 0) (L := 0) (xs := fun _ => 0)) := by simp only [cL_49, sk_seq, sk_blk, sk_E, sk_lift, sk_sld, sk_callH, aArg, aBol, aThr, aTI, aTJ, aTZ, aTD]
theorem ok_49 (b L : Nat) (xs : Nat → Int32) : cOK 2581 2637 (cL_49 (b := b) (L := L) (xs := xs)) := cOK_of (ky_49 b L xs) (by decide +kernel)
theorem ky_50 (b L : Nat) (xs : Nat → Int32) : sKey (cL_50 (b := b) (L := L) (xs := xs)) = sKey (cL_50 (b := 0) (L := 0) (xs := fun _ => 0)) := by simp only [cL_50, sk_seq, sk_blk, sk_E, sk_lift, sk_sld, sk_callH, aArg, aBol, aThr, aTI, aTJ, aTZ, aTD]
theorem ok_50 (b L : Nat) (xs : Nat → Int32) : cOK 2637 2705 (cL_50 (b := b) (L := L) (xs := xs)) := cOK_of (ky_50 b L xs) (by decide +kernel)
theorem ky_51 (b L : Nat) (xs : Nat → Int32) : sKey (cL_51 (b := b) (L := L) (xs := xs)) = sKey (cL_51 (b := 0) (L := 0) (xs := fun _ => 0)) := by simp only [cL_51, sk_seq, sk_blk, sk_E, sk_lift, sk_sld, sk_callH, aArg, aBol, aThr, aTI, aTJ, aTZ, aTD]
theorem ok_51 (b L : Nat) (xs : Nat → Int32) : cOK 2705 2761 (cL_51 (b := b) (L := L) (xs := xs)) := cOK_of (ky_51 b L xs) (by decide +kernel)
theorem ky_52 (b L : Nat) (xs : Nat → Int32) : sKey (cL_52 (b := b) (L := L) (xs := xs)) = sKey (cL_52 (b := 0) (L := 0) (xs := fun _ => 0)) := by simp only [cL_52, sk_seq, sk_blk, sk_E, sk_lift, sk_sld, sk_callH, aArg, aBol, aThr, aTI, aTJ, aTZ, aTD]
theorem ok_52 (b L : Nat) (xs : Nat → Int32) : cOK 2761 2774 (cL_52 (b := b) (L := L) (xs := xs)) := cOK_of (ky_52 b L xs) (by decide +kernel)
theorem ky_53 (b L : Nat) (xs : Nat → Int32) : sKey (cL_53 (b := b) (L := L) (xs := xs)) = sKey (cL_53 (b := 0) (L := 0) (xs := fun _ => 0)) := by simp only [cL_53, sk_seq, sk_blk, sk_E, sk_lift, sk_sld, sk_callH, aArg, aBol, aThr, aTI, aTJ, aTZ, aTD]
theorem ok_53 (b L : Nat) (xs : Nat → Int32) : cOK 2774 2830 (cL_53 (b := b) (L := L) (xs := xs)) := cOK_of (ky_53 b L xs) (by decide +kernel)
theorem ky_54 (b L : Nat) (xs : Nat → Int32) : sKey (cL_54 (b := b) (L := L) (xs := xs)) = sKey (cL_54 (b := 0) (L := 0) (xs := fun _ => 0)) := by simp only [cL_54, sk_seq, sk_blk, sk_E, sk_lift, sk_sld, sk_callH, aArg, aBol, aThr, aTI, aTJ, aTZ, aTD]
theorem ok_54 (b L : Nat) (xs : Nat → Int32) : cOK 2830 2843 (cL_54 (b := b) (L := L) (xs := xs)) := cOK_of (ky_54 b L xs) (by decide +kernel)
theorem ky_55 (b L : Nat) (xs : Nat → Int32) : sKey (cL_55 (b := b) (L := L) (xs := xs)) = sKey (cL_55 (b := 0) (L := 0) (xs := fun _ => 0)) := by simp only [cL_55, sk_seq, sk_blk, sk_E, sk_lift, sk_sld, sk_callH, aArg, aBol, aThr, aTI, aTJ, aTZ, aTD]
theorem ok_55 (b L : Nat) (xs : Nat → Int32) : cOK 2843 2856 (cL_55 (b := b) (L := L) (xs := xs)) := cOK_of (ky_55 b L xs) (by decide +kernel)
theorem ky_56 (b L : Nat) (xs : Nat → Int32) : sKey (cL_56 (b := b) (L := L) (xs := xs)) = sKey (cL_56 (b := 0) (L := 0) (xs := fun _ => 0)) := by simp only [cL_56, sk_seq, sk_blk, sk_E, sk_lift, sk_sld, sk_callH, aArg, aBol, aThr, aTI, aTJ, aTZ, aTD]
theorem ok_56 (b L : Nat) (xs : Nat → Int32) : cOK 2856 2900 (cL_56 (b := b) (L := L) (xs := xs)) := cOK_of (ky_56 b L xs) (by decide +kernel)
