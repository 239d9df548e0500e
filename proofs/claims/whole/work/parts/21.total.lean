/-! ===== Integer.bitCount counts the bits ===== -/
