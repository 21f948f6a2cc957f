import java.util.NoSuchElementException;

/**
 * Twelve registers of whole numbers of up to 1024 bits, and a text in which
 * they are written and read in any radix from 2 to 36.
 *
 * <p>Every row that a call works in is made with the object and used again, so
 * that no call but the constructor makes anything (an exception aside).
 */
public final class LimbRegisters {
    private static final int REGISTERS = 12;
    private static final int MOST_BITS = 1024;
    private static final int LEAST_RADIX = 2;
    private static final int MOST_RADIX = 36;

    /**
     * 28 bits, so that a column of a product (37 products of two limbs at most)
     * stays within a long, and carries can wait until all of them are there.
     */
    private static final int LIMB_BITS = 28;
    private static final int LONG_BITS = 64;
    private static final long BASE = 1L << LIMB_BITS;
    private static final long MASK = BASE - 1;

    /** A number takes 37 limbs, a product 74, also when it is lifted for a division, and one stands above it. */
    private static final int ROOM = 75;

    private final Whole[] registers = new Whole[REGISTERS];
    private final Whole answer = new Whole();
    private final Text text = new Text();
    private final Division division = new Division();
    private final Roots roots = new Roots();
    private final Residues residues = new Residues();
    private final Euclid euclid = new Euclid();

    public LimbRegisters() {
        for (int i = 0; i < REGISTERS; i++) {
            registers[i] = new Whole();
        }
    }

    public void set(int r, long v) throws IndexOutOfBoundsException {
        needRegister(r);
        registers[r].takeLong(v);
    }

    public void copy(int r, int a, boolean turned) throws IndexOutOfBoundsException {
        needRegister(r);
        needRegister(a);
        registers[r].take(registers[a].size, registers[a].below != turned);
    }

    public void add(int r, int a, int b)
            throws IndexOutOfBoundsException, UnsupportedOperationException {
        needRegister(r);
        needRegister(a);
        needRegister(b);
        answer.takeSum(registers[a], registers[b], false);
        keepAnswer(r);
    }

    public void subtract(int r, int a, int b)
            throws IndexOutOfBoundsException, UnsupportedOperationException {
        needRegister(r);
        needRegister(a);
        needRegister(b);
        answer.takeSum(registers[a], registers[b], true);
        keepAnswer(r);
    }

    public void multiply(int r, int a, int b)
            throws IndexOutOfBoundsException, UnsupportedOperationException {
        needRegister(r);
        needRegister(a);
        needRegister(b);
        answer.takeProduct(registers[a], registers[b]);
        keepAnswer(r);
    }

    public void divide(int q, int r, int a, int b, boolean down)
            throws IndexOutOfBoundsException, IllegalArgumentException, ArithmeticException {
        needRegister(q);
        needRegister(r);
        needRegister(a);
        needRegister(b);
        if (q == r) {
            throw new IllegalArgumentException("quotient and rest in the same register");
        }
        if (registers[b].size.isZero()) {
            throw new ArithmeticException("division by 0");
        }
        // The signs are read before q or r, which may be a or b, is written.
        boolean dividendBelow = registers[a].below;
        boolean divisorBelow = registers[b].below;
        boolean restBelow = dividendBelow;
        division.run(registers[a].size, registers[b].size);
        if (down && dividendBelow != divisorBelow && !division.rest.isZero()) {
            division.stepOver(registers[b].size);
            restBelow = divisorBelow;
        }
        registers[q].take(division.quotient, dividendBelow != divisorBelow);
        registers[r].take(division.rest, restBelow);
    }

    public void shift(int r, int a, int n)
            throws IndexOutOfBoundsException, UnsupportedOperationException {
        needRegister(r);
        needRegister(a);
        Whole number = registers[a];
        if (n <= 0) {
            // Every number is used up after so many bits: more of them change nothing.
            answer.takeLowered(number, -Math.max(n, -MOST_BITS));
        } else if (number.size.isZero()) {
            answer.takeLong(0);
        } else if (n > MOST_BITS - number.size.length()) {
            throw new UnsupportedOperationException("too great");
        } else {
            answer.takeRaised(number, n);
        }
        keepAnswer(r);
    }

    public void root(int r, int a, int k)
            throws IndexOutOfBoundsException, IllegalArgumentException, ArithmeticException {
        needRegister(r);
        needRegister(a);
        if (k < 1) {
            throw new IllegalArgumentException("the root's degree is below 1");
        }
        if (registers[a].below) {
            throw new ArithmeticException("root of a number below 0");
        }
        roots.run(registers[a].size, k);
        registers[r].take(roots.found, false);
    }

    public void gcd(int r, int a, int b) throws IndexOutOfBoundsException {
        needRegister(r);
        needRegister(a);
        needRegister(b);
        euclid.run(registers[a].size, registers[b].size);
        registers[r].take(euclid.divisor, false);
    }

    public void power(int r, int a, int e, int m)
            throws IndexOutOfBoundsException, ArithmeticException {
        needRegister(r);
        needRegister(a);
        needRegister(e);
        needRegister(m);
        needModulus(m);
        if (registers[e].below) {
            throw new ArithmeticException("the exponent is below 0");
        }
        residues.raise(registers[a], registers[e].size, registers[m].size);
        registers[r].take(residues.found, false);
    }

    public void inverse(int r, int a, int m)
            throws IndexOutOfBoundsException, ArithmeticException, NoSuchElementException {
        needRegister(r);
        needRegister(a);
        needRegister(m);
        needModulus(m);
        residues.reduce(registers[a], registers[m].size);
        euclid.run(registers[m].size, residues.found);
        if (!euclid.divisor.isOne()) {
            throw new NoSuchElementException("no inverse by this modulus");
        }
        euclid.bringFactorWithin(registers[m].size);
        registers[r].take(euclid.factor, false);
    }

    public int compare(int a, int b) throws IndexOutOfBoundsException {
        needRegister(a);
        needRegister(b);
        return registers[a].order(registers[b]);
    }

    public int bits(int a) throws IndexOutOfBoundsException {
        needRegister(a);
        return registers[a].size.length();
    }

    public boolean bit(int a, int i) throws IndexOutOfBoundsException {
        needRegister(a);
        if (i < 0) {
            throw new IndexOutOfBoundsException("no such bit");
        }
        return registers[a].isOddAfter(i);
    }

    public long low(int a) throws IndexOutOfBoundsException {
        needRegister(a);
        long lowest = registers[a].size.lowLong();
        return registers[a].below ? -lowest : lowest;
    }

    public int type(long characters, int n)
            throws IllegalArgumentException, IllegalStateException {
        if (n < 1 || n > Text.MOST_AT_ONCE) {
            throw new IllegalArgumentException("not 1 to 8 characters");
        }
        if (!Text.areCharacters(characters, n)) {
            throw new IllegalArgumentException("a code that is not 32 to 126");
        }
        if (text.count + n > Text.MOST) {
            throw new IllegalStateException("the text would have more than 1200 characters");
        }
        text.appendAll(characters, n);
        return text.count;
    }

    public int wipe() {
        int had = text.count;
        text.count = 0;
        return had;
    }

    public int parse(int r, int radix)
            throws IndexOutOfBoundsException, IllegalArgumentException,
            IllegalStateException, UnsupportedOperationException {
        needRegister(r);
        needRadix(radix);
        if (!text.isNumeral(radix)) {
            throw new IllegalStateException("the text is no numeral in this radix");
        }
        text.readNumeral(answer, radix);
        keepAnswer(r);
        int digits = text.count - text.signs();
        text.count = 0;
        return digits;
    }

    public int print(int a, int radix)
            throws IndexOutOfBoundsException, IllegalArgumentException {
        needRegister(a);
        needRadix(radix);
        answer.take(registers[a].size, registers[a].below);
        text.writeNumeral(answer, radix);
        return text.count;
    }

    public int character(int i) throws IndexOutOfBoundsException {
        if (i < 0 || i >= text.count) {
            throw new IndexOutOfBoundsException("no such character");
        }
        return text.codes[i];
    }

    private static void needRegister(int r) throws IndexOutOfBoundsException {
        if (r < 0 || r >= REGISTERS) {
            throw new IndexOutOfBoundsException("no such register");
        }
    }

    private static void needRadix(int radix) throws IllegalArgumentException {
        if (radix < LEAST_RADIX || radix > MOST_RADIX) {
            throw new IllegalArgumentException("the radix is not 2 to 36");
        }
    }

    private void needModulus(int m) throws ArithmeticException {
        if (registers[m].below || registers[m].size.isZero()) {
            throw new ArithmeticException("the modulus is not above 0");
        }
    }

    private void keepAnswer(int r) throws UnsupportedOperationException {
        if (answer.size.length() > MOST_BITS) {
            throw new UnsupportedOperationException("too great");
        }
        registers[r].take(answer.size, answer.below);
    }

    /**
     * A whole number that is not below 0, the lowest limb first. The limbs from
     * used on are 0, and the one below used is not.
     */
    private static final class Natural {
        final long[] limbs = new long[ROOM];
        int used = 0;

        boolean isZero() {
            return used == 0;
        }

        boolean isOne() {
            return used == 1 && limbs[0] == 1;
        }

        /** The limb at a place, also at one where the row has none. */
        long at(int i) {
            return i >= 0 && i < used ? limbs[i] : 0;
        }

        boolean hasBit(int i) {
            return ((at(i / LIMB_BITS) >> (i % LIMB_BITS)) & 1) == 1;
        }

        /** How many bits it takes: 0 for 0. */
        int length() {
            return used * LIMB_BITS - spareBits();
        }

        /** How many bits of the highest limb stand empty above its highest 1. */
        int spareBits() {
            return used == 0 ? 0 : Long.numberOfLeadingZeros(limbs[used - 1]) - (LONG_BITS - LIMB_BITS);
        }

        /** Whether one of the i lowest bits is 1. */
        boolean hasBitBelow(int i) {
            int whole = Math.min(i / LIMB_BITS, used);
            for (int k = 0; k < whole; k++) {
                if (limbs[k] != 0) {
                    return true;
                }
            }
            return (at(i / LIMB_BITS) & ((1L << (i % LIMB_BITS)) - 1)) != 0;
        }

        long lowLong() {
            return at(0) | at(1) << LIMB_BITS | at(2) << (2 * LIMB_BITS);
        }

        int order(Natural other) {
            if (used != other.used) {
                return used < other.used ? -1 : 1;
            }
            for (int i = used - 1; i >= 0; i--) {
                if (limbs[i] != other.limbs[i]) {
                    return limbs[i] < other.limbs[i] ? -1 : 1;
                }
            }
            return 0;
        }

        void clear() {
            settle(0);
        }

        /** To be called when the limbs below end have been written and the others have not. */
        void settle(int end) {
            for (int i = end; i < used; i++) {
                limbs[i] = 0;
            }
            used = end;
            while (used > 0 && limbs[used - 1] == 0) {
                used--;
            }
        }

        void take(Natural other) {
            int end = other.used;
            for (int i = 0; i < end; i++) {
                limbs[i] = other.limbs[i];
            }
            settle(end);
        }

        /** Takes a long as one without a sign, so that 2^63 is among them. */
        void takeUnsigned(long v) {
            limbs[0] = v & MASK;
            limbs[1] = (v >>> LIMB_BITS) & MASK;
            limbs[2] = v >>> (2 * LIMB_BITS);
            settle(3);
        }

        void putBit(int i) {
            int place = i / LIMB_BITS;
            if (place < 0 || place >= ROOM) {
                return;
            }
            limbs[place] |= 1L << (i % LIMB_BITS);
            used = Math.max(used, place + 1);
        }

        void takeSum(Natural a, Natural b) {
            int end = Math.max(a.used, b.used);
            long carry = 0;
            for (int i = 0; i < end; i++) {
                carry += a.limbs[i] + b.limbs[i];
                limbs[i] = carry & MASK;
                carry >>= LIMB_BITS;
            }
            limbs[end] = carry;
            settle(end + 1);
        }

        /** Takes a less b, where b is not above a. */
        void takeDifference(Natural a, Natural b) {
            int end = a.used;
            long carry = 0;
            for (int i = 0; i < end; i++) {
                carry += a.limbs[i] - b.limbs[i];
                limbs[i] = carry & MASK;
                carry >>= LIMB_BITS;
            }
            settle(end);
        }

        void increase() {
            int i = 0;
            while (i < used && limbs[i] == MASK) {
                limbs[i] = 0;
                i++;
            }
            limbs[i]++;
            used = Math.max(used, i + 1);
        }

        /** Takes the product of two numbers, neither of which is this one. */
        void takeProduct(Natural a, Natural b) {
            clear();
            for (int i = 0; i < a.used; i++) {
                gather(b, 0, i, a.limbs[i]);
            }
            carryUp(a.used + b.used);
        }

        /** As the product of a with itself, with half of the work: most of its parts come twice. */
        void takeSquare(Natural a) {
            clear();
            for (int i = 0; i < a.used; i++) {
                limbs[2 * i] += a.limbs[i] * a.limbs[i];
                gather(a, i + 1, i, 2 * a.limbs[i]);
            }
            carryUp(2 * a.used);
        }

        /** Adds factor times the limbs of b from start on, lifted by so many limbs, without carries. */
        private void gather(Natural b, int start, int lift, long factor) {
            long[] to = limbs;
            long[] from = b.limbs;
            int end = b.used;
            for (int j = start; j < end; j++) {
                to[lift + j] += factor * from[j];
            }
        }

        private void carryUp(int end) {
            long carry = 0;
            for (int i = 0; i < end; i++) {
                carry += limbs[i];
                limbs[i] = carry & MASK;
                carry >>= LIMB_BITS;
            }
            settle(end);
        }

        /** Takes a times 2^n; n is not below 0 and the result fits into the row. */
        void takeRaised(Natural a, int n) {
            int lift = n / LIMB_BITS;
            int left = n % LIMB_BITS;
            int end = a.used + lift + 1;
            long upper = 0;
            // From above, so that a may be this very row.
            for (int i = a.used; i > 0; i--) {
                long lower = a.limbs[i - 1];
                limbs[lift + i] = (upper << left | lower >> (LIMB_BITS - left)) & MASK;
                upper = lower;
            }
            limbs[lift] = upper << left & MASK;
            for (int i = 0; i < lift; i++) {
                limbs[i] = 0;
            }
            settle(end);
        }

        /** Takes a divided by 2^n, cut off; n is not below 0. */
        void takeLowered(Natural a, int n) {
            int drop = n / LIMB_BITS;
            int right = n % LIMB_BITS;
            int end = Math.max(a.used - drop, 0);
            long lower = a.at(drop);
            // From below, so that a may be this very row.
            for (int i = 0; i < end; i++) {
                long upper = a.at(drop + i + 1);
                limbs[i] = (lower >> right | upper << (LIMB_BITS - right)) & MASK;
                lower = upper;
            }
            settle(end);
        }

        /** Becomes itself times a radix and a digit more. */
        void pushDigit(int radix, int digit) {
            long carry = digit;
            int end = used;
            for (int i = 0; i < end; i++) {
                carry += limbs[i] * radix;
                limbs[i] = carry & MASK;
                carry >>= LIMB_BITS;
            }
            limbs[end] = carry;
            settle(end + 1);
        }

        /** Becomes itself divided by a radix, cut off, and answers what is left. */
        int popDigit(int radix) {
            long left = 0;
            for (int i = used - 1; i >= 0; i--) {
                long head = left * BASE + limbs[i];
                limbs[i] = head / radix;
                left = head % radix;
            }
            settle(used);
            return (int) left;
        }
    }

    /** A whole number: its size, and whether it is below 0, which 0 never is. */
    private static final class Whole {
        final Natural size = new Natural();
        boolean below = false;

        void take(Natural newSize, boolean newBelow) {
            size.take(newSize);
            below = newBelow && !size.isZero();
        }

        void takeLong(long v) {
            size.takeUnsigned(v < 0 ? -v : v);
            below = v < 0;
        }

        /** Takes the sum of a and b, or, turned, a less b. */
        void takeSum(Whole a, Whole b, boolean turned) {
            boolean secondBelow = b.below != turned;
            boolean sumBelow = a.below;
            if (a.below == secondBelow) {
                size.takeSum(a.size, b.size);
            } else if (a.size.order(b.size) >= 0) {
                size.takeDifference(a.size, b.size);
            } else {
                size.takeDifference(b.size, a.size);
                sumBelow = secondBelow;
            }
            below = sumBelow && !size.isZero();
        }

        /** Takes the product of two numbers, neither of which is this one. */
        void takeProduct(Whole a, Whole b) {
            size.takeProduct(a.size, b.size);
            below = a.below != b.below && !size.isZero();
        }

        void takeRaised(Whole a, int n) {
            size.takeRaised(a.size, n);
            below = a.below;
        }

        /** Takes the greatest whole number that is not above a divided by 2^n. */
        void takeLowered(Whole a, int n) {
            boolean cut = a.below && a.size.hasBitBelow(n);
            size.takeLowered(a.size, n);
            if (cut) {
                size.increase();
            }
            below = a.below;
        }

        /** Whether what takeLowered would take is odd. */
        boolean isOddAfter(int i) {
            return size.hasBit(i) != (below && size.hasBitBelow(i));
        }

        int order(Whole other) {
            if (below != other.below) {
                return below ? -1 : 1;
            }
            return below ? other.size.order(size) : size.order(other.size);
        }
    }

    /** Long division, limb by limb (Knuth's algorithm D). */
    private static final class Division {
        final Natural quotient = new Natural();
        final Natural rest = new Natural();
        private final Natural lifted = new Natural();

        /** Divides a by b, cut off; with a b that is 0 all of a is rest. */
        void run(Natural a, Natural b) {
            quotient.clear();
            if (b.isZero() || a.order(b) < 0) {
                rest.take(a);
                return;
            }
            // The guess of a limb is good only when the divisor's highest limb is filled.
            int lift = b.spareBits();
            lifted.takeRaised(b, lift);
            rest.takeRaised(a, lift);
            int last = rest.used - lifted.used;
            for (int from = last; from >= 0; from--) {
                quotient.limbs[from] = nextLimb(from);
            }
            quotient.settle(last + 1);
            rest.settle(rest.used);
            rest.takeLowered(rest, lift);
        }

        /** Goes one multiple of b further away from 0, which turns the rest to the other side. */
        void stepOver(Natural b) {
            quotient.increase();
            rest.takeDifference(b, rest);
        }

        private long nextLimb(int from) {
            long guess = guessLimb(from + lifted.used);
            if (takeAway(from, guess)) {
                return guess;
            }
            putBack(from);
            return guess - 1;
        }

        /** The limb of the quotient, or one above it, from the rest's limbs from top down. */
        private long guessLimb(int top) {
            long first = lifted.limbs[lifted.used - 1];
            long second = lifted.at(lifted.used - 2);
            long head = rest.limbs[top] * BASE + rest.limbs[top - 1];
            long third = rest.at(top - 2);
            long guess = Math.min(head / first, MASK);
            long left = head - guess * first;
            for (int i = 0; i < 2 && left < BASE && guess * second > left * BASE + third; i++) {
                guess--;
                left += first;
            }
            return guess;
        }

        /** Takes factor times the divisor from the rest: whether that was not too much. */
        private boolean takeAway(int from, long factor) {
            long[] to = rest.limbs;
            long[] by = lifted.limbs;
            int end = lifted.used;
            long carry = 0;
            for (int i = 0; i < end; i++) {
                carry += to[from + i] - factor * by[i];
                to[from + i] = carry & MASK;
                carry >>= LIMB_BITS;
            }
            to[from + end] += carry;
            return to[from + end] >= 0;
        }

        private void putBack(int from) {
            int end = lifted.used;
            long carry = 0;
            for (int i = 0; i < end; i++) {
                carry += rest.limbs[from + i] + lifted.limbs[i];
                rest.limbs[from + i] = carry & MASK;
                carry >>= LIMB_BITS;
            }
            rest.limbs[from + end] += carry;
        }
    }

    /** Roots, found bit by bit from the highest. */
    private static final class Roots {
        final Natural found = new Natural();
        private final Natural trial = new Natural();
        private final Natural reached = new Natural();
        private final Natural product = new Natural();

        /** Finds the k-th root of a, cut off; k is above 0. */
        void run(Natural a, int k) {
            found.clear();
            if (a.isZero() || k < 1) {
                return;
            }
            for (int i = (a.length() - 1) / k; i >= 0; i--) {
                trial.take(found);
                trial.putBit(i);
                if (isTrialWithin(a, k)) {
                    found.take(trial);
                }
            }
        }

        /** Whether the k-th power of the trial is not above a; stops at the first product that is. */
        private boolean isTrialWithin(Natural a, int k) {
            reached.take(trial);
            boolean within = reached.order(a) <= 0;
            for (int i = 30 - Integer.numberOfLeadingZeros(k); i >= 0 && within; i--) {
                product.takeSquare(reached);
                within = product.order(a) <= 0;
                reached.take(product);
                if (within && ((k >> i) & 1) == 1) {
                    product.takeProduct(reached, trial);
                    within = product.order(a) <= 0;
                    reached.take(product);
                }
            }
            return within;
        }
    }

    /** Numbers from 0 to one below a modulus, which is above 0. */
    private static final class Residues {
        final Natural found = new Natural();
        private final Natural base = new Natural();
        private final Natural product = new Natural();
        private final Division division = new Division();

        void reduce(Whole a, Natural modulus) {
            division.run(a.size, modulus);
            found.take(division.rest);
            if (a.below && !found.isZero()) {
                found.takeDifference(modulus, found);
            }
        }

        void raise(Whole a, Natural exponent, Natural modulus) {
            reduce(a, modulus);
            base.take(found);
            product.takeUnsigned(1);
            reduceProduct(modulus);
            for (int i = exponent.length() - 1; i >= 0; i--) {
                product.takeSquare(found);
                reduceProduct(modulus);
                if (exponent.hasBit(i)) {
                    product.takeProduct(found, base);
                    reduceProduct(modulus);
                }
            }
        }

        private void reduceProduct(Natural modulus) {
            division.run(product, modulus);
            found.take(division.rest);
        }
    }

    /**
     * Euclid's algorithm, which also keeps a factor of its second number: the
     * factor times that number is the divisor, but for a multiple of the first.
     * The factors come above and below 0 by turns, so their sizes are only added.
     */
    private static final class Euclid {
        /** Far above the 1476 steps that two numbers of 1024 bits can need. */
        private static final int MOST_STEPS = 10000;

        final Natural divisor = new Natural();
        final Natural factor = new Natural();
        private boolean factorBelow = false;
        private final Natural next = new Natural();
        private final Natural nextFactor = new Natural();
        private final Natural sum = new Natural();
        private final Division division = new Division();

        void run(Natural a, Natural b) {
            divisor.take(a);
            next.take(b);
            factor.clear();
            nextFactor.takeUnsigned(1);
            factorBelow = true;
            for (int i = 0; i < MOST_STEPS && !next.isZero(); i++) {
                division.run(divisor, next);
                divisor.take(next);
                next.take(division.rest);
                sum.takeProduct(division.quotient, nextFactor);
                sum.takeSum(sum, factor);
                factor.take(nextFactor);
                nextFactor.take(sum);
                factorBelow = !factorBelow;
            }
        }

        /** Brings the factor to 0 .. one below the modulus, the first number of the run. */
        void bringFactorWithin(Natural modulus) {
            if (factorBelow && !factor.isZero()) {
                factor.takeDifference(modulus, factor);
            }
        }
    }

    /** The row of characters, and the numerals in it. */
    private static final class Text {
        static final int MOST = 1200;
        static final int MOST_AT_ONCE = 8;
        private static final int LEAST_CODE = 32;
        private static final int MOST_CODE = 126;
        private static final int NO_DIGIT = -1;

        final byte[] codes = new byte[MOST];
        int count = 0;

        static boolean areCharacters(long characters, int n) {
            for (int i = 0; i < n; i++) {
                int code = codeIn(characters, i);
                if (code < LEAST_CODE || code > MOST_CODE) {
                    return false;
                }
            }
            return true;
        }

        private static int codeIn(long characters, int i) {
            return (int) (characters >>> (8 * i)) & 255;
        }

        void appendAll(long characters, int n) {
            for (int i = n - 1; i >= 0; i--) {
                append(codeIn(characters, i));
            }
        }

        private void append(int code) {
            if (count < MOST) {
                codes[count] = (byte) code;
                count++;
            }
        }

        /** How many characters stand before the digits of a numeral. */
        int signs() {
            return count > 0 && codes[0] == '-' ? 1 : 0;
        }

        boolean isNumeral(int radix) {
            int start = signs();
            for (int i = start; i < count; i++) {
                int digit = digitOf(codes[i]);
                if (digit == NO_DIGIT || digit >= radix) {
                    return false;
                }
            }
            return count > start;
        }

        /** Reads the numeral that the text is, as far as the number is not too great. */
        void readNumeral(Whole to, int radix) {
            to.takeLong(0);
            for (int i = signs(); i < count && to.size.length() <= MOST_BITS; i++) {
                to.size.pushDigit(radix, digitOf(codes[i]));
            }
            to.below = signs() == 1 && !to.size.isZero();
        }

        /** Makes the text the numeral of a number, which is 0 then. */
        void writeNumeral(Whole from, int radix) {
            count = 0;
            boolean more = true;
            for (int i = 0; i < MOST && more; i++) {
                append(codeOf(from.size.popDigit(radix)));
                more = !from.size.isZero();
            }
            if (from.below) {
                append('-');
            }
            reverse();
        }

        private void reverse() {
            for (int i = 0, k = count - 1; i < k; i++, k--) {
                byte code = codes[i];
                codes[i] = codes[k];
                codes[k] = code;
            }
        }

        private static int digitOf(int code) {
            if (code >= '0' && code <= '9') {
                return code - '0';
            }
            if (code >= 'a' && code <= 'z') {
                return code - 'a' + 10;
            }
            if (code >= 'A' && code <= 'Z') {
                return code - 'A' + 10;
            }
            return NO_DIGIT;
        }

        private static int codeOf(int digit) {
            return digit < 10 ? '0' + digit : 'a' + digit - 10;
        }
    }
}
