import java.util.NoSuchElementException;

/** Each promise of the document: ordinary inputs, the edges that it names, and wrong inputs. */
public final class PromisesTest {
    private static final Class<IllegalArgumentException> ARGUMENT = IllegalArgumentException.class;
    private static final Class<IllegalStateException> STATE = IllegalStateException.class;
    private static final Class<NoSuchElementException> NO_SUCH = NoSuchElementException.class;
    private static final Class<ArithmeticException> POWER = ArithmeticException.class;

    private PromisesTest() {
    }

    public static void main(String[] args) {
        promise1();
        promise1OrderOfExceptions();
        promise2();
        promise3();
        promise4();
        promise5();
        promise5Size();
        promise6();
        promise7();
        promise7Size();
        promise8();
        promise9();
        promise10();
        promise11();
        promise12();
        promise13();
        promise14();
        promise15();
        promise16();
        promise17();
        promise17WrongInputs();
        promise17OneFailureOnly();
        promise18();
        promise18Power();
        promise19();
        promise20();
        promise21();
        Due.finish("PromisesTest");
    }

    private static Store stored(long... keys) {
        Store x = new Store();
        Make.keys(x, keys);
        return x;
    }

    private static Store off() {
        Store x = stored(1);
        Make.off(x);
        return x;
    }

    private static void promise1() {
        Store x = new Store();
        int[] want = {1, 0, 0, -1, 0, 0, 0, 0};
        for (int what = 0; what < 8; what++) {
            Due.is("1: told(" + what + ") of a new object", x.told(what), want[what]);
        }
        Due.is("1: digest of nothing", x.digest(-1), 7);
        Due.is("1: seek in nothing", x.seek(-1, false), -1);
        Due.is("1: before in nothing", x.before(-1), -1);
        Due.is("1: get in nothing", x.get(-1), -1);
        Due.is("1: bytes of the key", x.bytes(false, 0), 0);
        Due.is("1: bytes of the value", x.bytes(true, 0), 0);
        Due.is("1: check of nothing", x.check(), 0);
        x.flush();
        x.compact();
        Due.is("1: reopen of nothing", x.reopen(), 0);
    }

    private static void promise1OrderOfExceptions() {
        Store x = off();
        x.key(0, 0, true);
        Due.thrown("1: put, OFF before an empty key", STATE, x::put);
        Due.thrown("1: remove, OFF before an empty key", STATE, x::remove);
        Due.thrown("1: get, OFF before no snapshot", STATE, () -> x.get(9));
        Due.thrown("1: seek, OFF before no snapshot", STATE, () -> x.seek(9, true));
        Due.thrown("1: before, OFF before no snapshot", STATE, () -> x.before(9));
        Due.thrown("1: release, OFF before no snapshot", STATE, () -> x.release(9));
        Due.thrown("1: digest, OFF before no snapshot", STATE, () -> x.digest(9));
        Due.thrown("1: begin, OFF", STATE, x::begin);
        Due.thrown("1: commit, OFF", STATE, x::commit);
        Due.thrown("1: cancel, OFF", STATE, x::cancel);
        Due.thrown("1: snapshot, OFF", STATE, x::snapshot);
        Due.thrown("1: flush, OFF", STATE, x::flush);
        Due.thrown("1: compact, OFF", STATE, x::compact);
        Due.thrown("1: check, OFF", STATE, x::check);
        Due.thrown("1: told of a wrong what, OFF", ARGUMENT, () -> x.told(8));
        Due.thrown("1: bytes at a wrong place, OFF", ARGUMENT, () -> x.bytes(true, -1));
        Due.is("1: key, OFF", x.key(5, 1, true), 1);
        Due.is("1: value, OFF", x.value(5, 2, true), 2);

        Store y = new Store();
        y.begin();
        for (int i = 0; i < 64; i++) {
            y.key(i, 1, true);
            y.put();
        }
        y.key(0, 0, true);
        Due.thrown("1: an empty key before a full batch", ARGUMENT, y::put);
        Due.thrown("1: an empty key before a full batch", ARGUMENT, y::remove);
        Due.is("1: what throws changes nothing", y.told(3), 64);
    }

    private static void promise2() {
        Store x = new Store();
        Due.is("2: two bytes", x.key(0xAB12345678L, 2, true), 2);
        Due.is("2: the low ones, highest first", x.bytes(false, 0), 0x5678L << 48);
        Due.is("2: none come behind", x.key(-1, 0, false), 2);
        Due.is("2: eight come behind", x.key(0x8182838485868788L, 8, false), 10);
        Due.is("2: in their order", x.bytes(false, 2), 0x8182838485868788L);
        Due.is("2: fresh with none", x.key(1, 0, true), 0);
        Due.is("2: and nothing is there", x.bytes(false, 0), 0);
        for (int i = 1; i <= 4; i++) {
            Due.is("2: eight more", x.key(i, 8, false), 8 * i);
        }
        Due.is("2: none more of 32", x.key(1, 0, false), 32);
        Due.thrown("2: more than 32", ARGUMENT, () -> x.key(1, 1, false));
        Due.thrown("2: nine", ARGUMENT, () -> x.key(1, 9, true));
        Due.thrown("2: less than none", ARGUMENT, () -> x.key(1, -1, true));
        Due.thrown("2: far more", ARGUMENT, () -> x.key(1, Integer.MAX_VALUE, false));
        Due.thrown("2: far less", ARGUMENT, () -> x.key(1, Integer.MIN_VALUE, false));
        Due.is("2: what throws changes nothing", x.told(6), 32);
        Due.is("2: nor its bytes", x.bytes(false, 24), 4);
        Due.is("2: fresh, behind 32", x.key(7, 1, true), 1);
        x.key(0, 0, true);
        for (int i = 0; i < 3; i++) {
            x.key(i, 8, false);
        }
        x.key(9, 5, false);
        Due.thrown("2: 29 and 4", ARGUMENT, () -> x.key(1, 4, false));
        Due.is("2: 29 and 3", x.key(1, 3, false), 32);
    }

    private static void promise3() {
        Store x = new Store();
        Due.is("3: three bytes", x.value(0xAB12345678L, 3, true), 3);
        Due.is("3: the low ones, highest first", x.bytes(true, 0), 0x345678L << 40);
        Due.is("3: the key is another row", x.told(6), 0);
        Due.is("3: eight come behind", x.value(-2, 8, false), 11);
        Due.is("3: in their order", x.bytes(true, 3), -2);
        x.value(0, 0, true);
        for (int i = 1; i <= 25; i++) {
            Due.is("3: eight more", x.value(i, 8, false), 8 * i);
        }
        Due.is("3: none more of 200", x.value(1, 0, false), 200);
        Due.thrown("3: more than 200", ARGUMENT, () -> x.value(1, 1, false));
        Due.thrown("3: nine", ARGUMENT, () -> x.value(1, 9, true));
        Due.thrown("3: less than none", ARGUMENT, () -> x.value(1, -1, true));
        Due.thrown("3: far more", ARGUMENT, () -> x.value(1, Integer.MAX_VALUE, false));
        Due.is("3: what throws changes nothing", x.told(7), 200);
        Due.is("3: nor its bytes", x.bytes(true, 192), 25);
        Due.is("3: fresh, behind 200", x.value(7, 8, true), 8);
    }

    private static void promise4() {
        Store x = stored(1);
        Due.is("4: no batch", x.told(3), -1);
        x.begin();
        Due.is("4: an empty batch", x.told(3), 0);
        Due.thrown("4: it is open", STATE, x::begin);
        x.put();
        Due.thrown("4: it is open", STATE, x::begin);
        Due.is("4: what throws changes nothing", x.told(3), 1);
        x.commit();
        x.begin();
        x.cancel();
        x.begin();
        Due.is("4: a new one is empty", x.told(3), 0);
    }

    private static void promise5() {
        Store x = new Store();
        Due.thrown("5: an empty key", ARGUMENT, x::put);
        Due.is("5: which is no commit", x.told(5), 0);
        x.key(1, 1, true);
        Due.is("5: an empty value", x.put(), 9);
        x.value(5, 3, true);
        Due.is("5: another value", x.put(), 12);
        x.key(2, 4, true);
        Due.is("5: another key", x.put(), 27);
        Due.is("5: two keys", x.told(2), 2);
        Due.is("5: three commits", x.told(5), 3);
        Due.is("5: the value is there", x.get(-1), 3);
        Due.is("5: the key stays", x.told(6), 4);
        Make.key(x, 7, 32);
        Make.value(x, 200);
        Due.is("5: the largest", x.put(), 267);

        x.begin();
        x.key(3, 1, true);
        Due.is("5: into the batch", x.put(), 1);
        Due.is("5: it is not done yet", x.get(-1), -1);
        Due.is("5: nor counted", x.told(1), 267);
        for (int i = 2; i <= 64; i++) {
            Due.is("5: into the batch", x.put(), i);
        }
        Due.thrown("5: the batch is full", STATE, x::put);
        Due.is("5: what throws changes nothing", x.told(3), 64);
        x.key(0, 0, true);
        Due.thrown("5: an empty key, into a batch", ARGUMENT, x::put);
    }

    private static void promise5Size() {
        Store x = new Store();
        Make.value(x, 200);
        for (int i = 0; i < 76; i++) {
            x.key(i, 2, true);
            Due.is("5: SIZE", x.put(), 210 * (i + 1));
        }
        x.key(100, 2, true);
        Due.thrown("5: more than 16000", STATE, x::put);
        Due.is("5: what throws changes nothing", x.told(1), 15960);
        Due.is("5: and is no commit", x.told(5), 76);
        Due.is("5: and not there", x.get(-1), -1);
        Make.value(x, 31);
        Due.thrown("5: 16001", STATE, x::put);
        Make.value(x, 30);
        Due.is("5: just 16000", x.put(), 16000);
        x.key(1, 1, true);
        x.value(0, 0, true);
        Due.thrown("5: the smallest more", STATE, x::put);
        x.key(5, 2, true);
        Make.value(x, 200);
        Due.is("5: a value of as many bytes", x.put(), 16000);
        Make.value(x, 199);
        Due.is("5: a shorter one", x.put(), 15999);
        x.power(0, 0, 0);
        x.key(1, 8, true);
        Due.thrown("5: too much comes before power", STATE, x::put);
        Due.is("5: and it is on", x.told(0), 1);
        Due.is("5: all is there", x.reopen(), 15999);
    }

    private static void promise6() {
        Store x = stored(1, 2, 3);
        Due.is("6: a key that is there", x.remove(), 26);
        Due.is("6: one less", x.told(2), 2);
        Due.is("6: it is not there", x.get(-1), -1);
        Due.is("6: a key that is not there", x.remove(), 26);
        Due.is("6: which is a commit", x.told(5), 5);
        x.key(0, 0, true);
        Due.thrown("6: an empty key", ARGUMENT, x::remove);
        x.key(1, 1, true);
        Due.is("6: a beginning of keys", x.remove(), 26);
        Due.is("6: takes none of them", x.told(2), 2);
        x.begin();
        x.key(1, 2, true);
        for (int i = 1; i <= 64; i++) {
            Due.is("6: into the batch", x.remove(), i);
        }
        Due.thrown("6: the batch is full", STATE, x::remove);
        Due.is("6: it is not done yet", x.get(-1), 3);
        Due.is("6: done", x.commit(), 13);
        x.key(2, 2, true);
        Due.is("6: the last one", x.remove(), 0);
        Due.is("6: nothing is left", x.digest(-1), 7);
        x.power(0, 0, 3);
        Due.thrown("6: power fails", POWER, x::remove);
        Due.is("6: it is OFF", x.told(0), 0);
    }

    private static void promise7() {
        Store x = stored(1, 2);
        Due.thrown("7: none is open", STATE, x::commit);
        x.begin();
        Due.is("7: an empty one", x.commit(), 26);
        Due.is("7: is a commit", x.told(5), 3);
        Due.is("7: it is closed", x.told(3), -1);
        x.begin();
        x.key(3, 2, true);
        x.value(1, 1, true);
        x.put();
        x.value(2, 2, true);
        x.put();
        x.key(1, 2, true);
        x.remove();
        x.key(4, 2, true);
        x.put();
        x.remove();
        x.key(2, 2, true);
        x.remove();
        x.put();
        Due.is("7: one after the other", x.commit(), 24);
        Due.is("7: as one commit", x.told(5), 4);
        Due.is("7: two keys", x.told(2), 2);
        x.key(3, 2, true);
        Due.is("7: the later put counts", x.get(-1), 2);
        x.key(4, 2, true);
        Due.is("7: the later remove counts", x.get(-1), -1);
        Due.thrown("7: it is closed", STATE, x::commit);

        x.begin();
        x.put();
        x.power(0, 0, 1);
        Due.thrown("7: power fails in it", POWER, x::commit);
        Due.is("7: no batch then", x.told(3), -1);
        Due.is("7: not lasting", x.told(5), 4);
        Due.is("7: nothing of it is done", x.reopen(), 24);
        x.begin();
        x.put();
        x.power(1, 0, 0);
        Due.thrown("7: power fails behind it", POWER, x::commit);
        Due.is("7: lasting", x.told(5), 5);
        Due.is("7: all of it is done", x.reopen(), 36);
    }

    private static void promise7Size() {
        Store x = new Store();
        Make.value(x, 200);
        for (int batch = 0; batch < 2; batch++) {
            x.begin();
            for (int i = 0; i < 38; i++) {
                x.key(batch * 38 + i, 2, true);
                x.put();
            }
            x.commit();
        }
        Due.is("7: 76 keys", x.told(1), 15960);
        x.begin();
        x.key(1, 2, true);
        x.remove();
        x.key(200, 2, true);
        x.put();
        x.key(201, 2, true);
        x.put();
        Due.thrown("7: more than 16000", STATE, x::commit);
        Due.is("7: it is closed then", x.told(3), -1);
        Due.is("7: nothing is done", x.told(1), 15960);
        Due.is("7: it is no commit", x.told(5), 2);
        x.key(1, 2, true);
        Due.is("7: also not what it removed", x.get(-1), 200);
        x.begin();
        x.key(200, 2, true);
        x.put();
        x.key(1, 2, true);
        x.remove();
        Due.is("7: more than 16000 only on the way", x.commit(), 15960);
    }

    private static void promise8() {
        Store x = stored(1, 2);
        Due.thrown("8: none is open", STATE, x::cancel);
        x.begin();
        Due.is("8: an empty one", x.cancel(), 0);
        x.begin();
        x.remove();
        x.key(9, 1, true);
        x.put();
        Due.is("8: two", x.cancel(), 2);
        Due.is("8: it is closed", x.told(3), -1);
        Due.is("8: nothing is done", x.told(1), 26);
        Due.is("8: it is no commit", x.told(5), 2);
        Due.thrown("8: it is closed", STATE, x::cancel);
        x.begin();
        Due.is("8: the next one is empty", x.told(3), 0);
    }

    private static void promise9() {
        Store x = stored(1);
        for (int i = 0; i < 8; i++) {
            Due.is("9: the least free number", x.snapshot(), i);
            x.key(2 + i, 2, true);
            x.put();
        }
        Due.thrown("9: there are eight", STATE, x::snapshot);
        Due.is("9: bits of eight", x.told(4), 255);
        x.release(5);
        x.release(2);
        Due.is("9: the least free number", x.snapshot(), 2);
        Due.is("9: the next", x.snapshot(), 5);
        x.key(9, 2, true);
        Due.is("9: it sees what was then", x.get(5), 3);
        Due.is("9: others do not", x.get(4), -1);
        Due.is("9: the last of the first ones does not", x.get(7), -1);
        Store y = new Store();
        Due.is("9: of nothing", y.snapshot(), 0);
        y.key(1, 1, true);
        y.put();
        Due.is("9: sees nothing", y.digest(0), 7);
        y.begin();
        y.remove();
        Due.is("9: as a batch is open", y.snapshot(), 1);
        y.commit();
        Due.is("9: sees the map without it", y.get(1), 0);
    }

    private static void promise10() {
        Store x = stored(1);
        Due.thrown("10: none", NO_SUCH, () -> x.release(0));
        x.snapshot();
        x.snapshot();
        Due.thrown("10: the map itself", NO_SUCH, () -> x.release(-1));
        Due.thrown("10: another", NO_SUCH, () -> x.release(2));
        Due.thrown("10: eight", NO_SUCH, () -> x.release(8));
        Due.thrown("10: far above", NO_SUCH, () -> x.release(Integer.MAX_VALUE));
        Due.thrown("10: far below", NO_SUCH, () -> x.release(Integer.MIN_VALUE));
        x.release(0);
        Due.is("10: one is left", x.told(4), 2);
        Due.thrown("10: it went", NO_SUCH, () -> x.release(0));
        Due.thrown("10: and is not seen", NO_SUCH, () -> x.get(0));
        x.release(1);
        Due.is("10: none is left", x.told(4), 0);
    }

    private static void promise11() {
        Store x = stored(1, 2);
        x.snapshot();
        x.key(2, 2, true);
        x.value(0x77, 1, true);
        x.put();
        x.value(0x99, 5, true);
        Due.is("11: of the map", x.get(-1), 1);
        Due.is("11: the value becomes it", x.bytes(true, 0), 0x77L << 56);
        Due.is("11: of the snapshot", x.get(0), 3);
        Due.is("11: the value becomes it", x.bytes(true, 0), 6L << 40);
        x.remove();
        Due.is("11: it is not there", x.get(-1), -1);
        Due.is("11: the value stays", x.bytes(true, 0), 6L << 40);
        x.key(2, 1, true);
        Due.is("11: another key", x.get(0), -1);
        x.key(0, 0, true);
        Due.is("11: an empty key", x.get(0), -1);
        Due.thrown("11: no snapshot", NO_SUCH, () -> x.get(1));
        Due.thrown("11: none below", NO_SUCH, () -> x.get(-2));
        Due.thrown("11: none above", NO_SUCH, () -> x.get(8));
        Due.thrown("11: none far above", NO_SUCH, () -> x.get(Integer.MAX_VALUE));
        x.key(1, 2, true);
        x.value(0, 0, true);
        x.put();
        x.value(1, 1, true);
        Due.is("11: an empty value", x.get(-1), 0);
        Due.is("11: the value becomes empty", x.told(7), 0);
    }

    private static void promise12() {
        Store x = stored(0x0100, 0x0180, 0x01FF, 0x7F00, 0x80FF);
        x.key(1, 1, true);
        x.value(1, 1, true);
        x.put();
        x.key(0, 0, true);
        Due.is("12: from nothing on", x.seek(-1, false), 1);
        Due.is("12: a beginning comes first", x.bytes(false, 0), 1L << 56);
        Due.is("12: its value", x.bytes(true, 0), 1L << 56);
        Due.is("12: not before itself", x.seek(-1, false), 1);
        long[] next = {0x0100, 0x0180, 0x01FF, 0x7F00, 0x80FF};
        for (long key : next) {
            Due.is("12: behind", x.seek(-1, true), 2);
            Due.is("12: the next key", x.bytes(false, 0), key << 48);
            Due.is("12: the next value", x.bytes(true, 0), key * 3 << 40);
        }
        Due.is("12: none behind", x.seek(-1, true), -1);
        Due.is("12: the key stays", x.bytes(false, 0), 0x80FFL << 48);
        Due.is("12: the value stays", x.bytes(true, 0), 0x80FFL * 3 << 40);
        x.key(0x018000, 3, true);
        Due.is("12: between two", x.seek(-1, false), 2);
        Due.is("12: the one behind", x.bytes(false, 0), 0x01FFL << 48);
        int s = x.snapshot();
        x.remove();
        x.key(0x0181, 2, true);
        Due.is("12: past what is removed", x.seek(-1, true), 2);
        Due.is("12: the one behind that", x.bytes(false, 0), 0x7F00L << 48);
        x.key(0x0181, 2, true);
        Due.is("12: in the snapshot", x.seek(s, false), 2);
        Due.is("12: it is still there", x.bytes(false, 0), 0x01FFL << 48);
        x.key(0xFF, 1, true);
        Due.is("12: bytes are 0 to 255", x.seek(s, false), -1);
        Due.thrown("12: no snapshot", NO_SUCH, () -> x.seek(1, false));
        Due.thrown("12: none below", NO_SUCH, () -> x.seek(-2, true));
        Due.thrown("12: none above", NO_SUCH, () -> x.seek(8, true));
        Due.is("12: what throws changes nothing", x.bytes(false, 0), 0xFFL << 56);
    }

    private static void promise13() {
        Store x = stored(0x0100, 0x0180, 0x7F00, 0x80FF);
        x.key(1, 1, true);
        x.value(1, 1, true);
        x.put();
        Make.key(x, -1, 32);
        long[] previous = {0x80FF, 0x7F00, 0x0180, 0x0100};
        for (long key : previous) {
            Due.is("13: before", x.before(-1), 2);
            Due.is("13: the key", x.bytes(false, 0), key << 48);
            Due.is("13: its value", x.bytes(true, 0), key * 3 << 40);
        }
        Due.is("13: a beginning", x.before(-1), 1);
        Due.is("13: its value", x.bytes(true, 0), 1L << 56);
        Due.is("13: none before", x.before(-1), -1);
        Due.is("13: the key stays", x.bytes(false, 0), 1L << 56);
        Due.is("13: the value stays", x.bytes(true, 0), 1L << 56);
        x.key(0, 0, true);
        Due.is("13: before nothing", x.before(-1), -1);
        int s = x.snapshot();
        x.key(0x7F00, 2, true);
        x.remove();
        x.key(0x80FF, 2, true);
        Due.is("13: past what is removed", x.before(-1), 2);
        Due.is("13: the one before that", x.bytes(false, 0), 0x0180L << 48);
        x.key(0x80FF, 2, true);
        Due.is("13: in the snapshot", x.before(s), 2);
        Due.is("13: it is still there", x.bytes(false, 0), 0x7F00L << 48);
        Due.thrown("13: no snapshot", NO_SUCH, () -> x.before(1));
        Due.thrown("13: none below", NO_SUCH, () -> x.before(-2));
        Due.thrown("13: none above", NO_SUCH, () -> x.before(8));
        Due.is("13: what throws changes nothing", x.bytes(false, 0), 0x7F00L << 48);
    }

    private static void promise14() {
        Store x = new Store();
        x.key(0x8102030405060708L, 8, true);
        x.key(0xFFL, 1, false);
        x.value(0x1112L, 2, true);
        Due.is("14: of the key", x.bytes(false, 0), 0x8102030405060708L);
        Due.is("14: from byte 1", x.bytes(false, 1), 0x02030405060708FFL);
        Due.is("14: from the last", x.bytes(false, 8), 0xFFL << 56);
        Due.is("14: behind the end", x.bytes(false, 9), 0);
        Due.is("14: at 200", x.bytes(false, 200), 0);
        Due.is("14: of the value", x.bytes(true, 0), 0x1112L << 48);
        Due.is("14: from byte 1", x.bytes(true, 1), 0x12L << 56);
        Due.is("14: behind the end", x.bytes(true, 2), 0);
        x.value(0, 0, true);
        for (int i = 0; i < 25; i++) {
            x.value(-1 - i, 8, false);
        }
        Due.is("14: from byte 192", x.bytes(true, 192), -25);
        Due.is("14: from byte 199", x.bytes(true, 199), 0xE7L << 56);
        Due.is("14: from byte 200", x.bytes(true, 200), 0);
        x.value(3, 1, true);
        Due.is("14: nothing of what was longer", x.bytes(true, 0), 3L << 56);
        Due.thrown("14: at -1", ARGUMENT, () -> x.bytes(false, -1));
        Due.thrown("14: at 201", ARGUMENT, () -> x.bytes(true, 201));
        Due.thrown("14: far above", ARGUMENT, () -> x.bytes(true, Integer.MAX_VALUE));
        Due.thrown("14: far below", ARGUMENT, () -> x.bytes(false, Integer.MIN_VALUE));
    }

    private static void promise15() {
        Store x = stored(1, 2, 3);
        x.snapshot();
        x.remove();
        long map = x.digest(-1);
        long then = x.digest(0);
        x.begin();
        x.put();
        x.flush();
        Due.is("15: the map is the same", x.digest(-1), map);
        Due.is("15: the snapshot too", x.digest(0), then);
        Due.is("15: the batch stays", x.told(3), 1);
        Due.is("15: SIZE", x.told(1), 26);
        Due.is("15: nothing is wrong", x.check(), 0);
        x.flush();
        Due.is("15: again", x.digest(-1), map);
        Due.is("15: it is no commit", x.told(5), 4);
        x.power(2, 0, 0);
        Due.thrown("15: power fails", POWER, x::flush);
        Due.is("15: it is OFF", x.told(0), 0);
        Due.thrown("15: it is OFF", STATE, x::flush);
        x.reopen();
        Due.is("15: the map is the same", x.digest(-1), map);
        x.power(2, 400, 300);
        Due.thrown("15: power fails at its end", POWER, x::flush);
        x.reopen();
        Due.is("15: the map is the same", x.digest(-1), map);
    }

    private static void promise16() {
        Store x = stored(1, 2, 3, 4, 5, 6);
        x.snapshot();
        x.remove();
        x.flush();
        x.key(1, 2, true);
        x.remove();
        long map = x.digest(-1);
        long then = x.digest(0);
        x.compact();
        Due.is("16: the map is the same", x.digest(-1), map);
        Due.is("16: the snapshot too", x.digest(0), then);
        Due.is("16: nothing is wrong", x.check(), 0);
        x.release(0);
        x.compact();
        Due.is("16: the map is the same", x.digest(-1), map);
        Due.is("16: it is no commit", x.told(5), 8);
        x.power(2, 1, 7);
        Due.thrown("16: power fails", POWER, x::compact);
        Due.thrown("16: it is OFF", STATE, x::compact);
        Due.is("16: SIZE", x.reopen(), 52);
        Due.is("16: the map is the same", x.digest(-1), map);
        x.power(2, 400, 0);
        Due.thrown("16: power fails at its end", POWER, x::compact);
        x.reopen();
        Due.is("16: the map is the same", x.digest(-1), map);
    }

    private static void promise17() {
        for (int b = 0; b <= 300; b++) {
            Store x = stored(1);
            x.power(0, 400 - b, b);
            x.key(2, 2, true);
            Due.thrown("17: cut after " + b, POWER, x::put);
            Due.is("17: it is OFF", x.told(0), 0);
            Due.is("17: one commit is lasting", x.told(5), 1);
            Due.is("17: the map without it", x.reopen(), 13);
            x.power(1, b, b);
            Due.thrown("17: behind that, " + b, POWER, x::put);
            Due.is("17: two commits are lasting", x.told(5), 2);
            Due.is("17: the map with it", x.reopen(), 26);
        }
        Store y = stored(1);
        y.power(0, 0, 0);
        y.power(1, 0, 0);
        Due.thrown("17: what was said before is forgotten", POWER, y::put);
        Due.is("17: the second was said last", y.told(5), 2);
        y.reopen();
        y.power(2, 0, 0);
        y.power(3, 0, 0);
        y.flush();
        Due.is("17: not at all", y.put(), 13);
        y.power(0, 0, 0);
        y.flush();
        y.compact();
        y.begin();
        y.remove();
        Due.is("17: only in a commit", y.told(0), 1);
        y.cancel();
        y.begin();
        Due.thrown("17: an empty batch", POWER, y::commit);
        Due.is("17: it is not lasting", y.told(5), 3);
        y.power(2, 0, 0);
        Due.is("17: said as it is OFF", y.told(0), 0);
        Due.thrown("17: it counts for reopen", POWER, y::reopen);
        Due.is("17: once", y.reopen(), 13);
    }

    private static void promise17WrongInputs() {
        Store x = stored(1);
        x.power(1, 400, 300);
        Due.thrown("17: when -1", ARGUMENT, () -> x.power(-1, 0, 0));
        Due.thrown("17: when 4", ARGUMENT, () -> x.power(4, 0, 0));
        Due.thrown("17: k -1", ARGUMENT, () -> x.power(3, -1, 0));
        Due.thrown("17: k 401", ARGUMENT, () -> x.power(3, 401, 0));
        Due.thrown("17: b -1", ARGUMENT, () -> x.power(3, 0, -1));
        Due.thrown("17: b 301", ARGUMENT, () -> x.power(0, 0, 301));
        Due.thrown("17: far away", ARGUMENT, () -> x.power(2, Integer.MAX_VALUE, Integer.MIN_VALUE));
        Due.thrown("17: what throws changes nothing", POWER, x::put);
        Due.is("17: it was behind the write", x.told(5), 2);
    }

    private static void promise17OneFailureOnly() {
        Store x = stored(1);
        x.power(0, 0, 0);
        Due.thrown("17: it fails", POWER, x::put);
        x.reopen();
        Due.is("17: once", x.put(), 13);
        x.flush();
        x.power(0, 0, 0);
        x.reopen();
        Due.is("17: forgotten by reopen", x.put(), 13);
        x.power(1, 0, 0);
        x.reopen();
        Due.is("17: forgotten by reopen", x.put(), 13);
    }

    private static void promise18() {
        Store x = stored(1, 2);
        x.snapshot();
        x.begin();
        x.remove();
        x.value(0x55, 1, true);
        Due.is("18: as it is on", x.reopen(), 26);
        Due.is("18: on", x.told(0), 1);
        Due.is("18: no batch", x.told(3), -1);
        Due.is("18: no snapshots", x.told(4), 0);
        Due.is("18: the commits", x.told(5), 2);
        Due.is("18: the key stays", x.bytes(false, 0), 2L << 48);
        Due.is("18: the value stays", x.bytes(true, 0), 0x55L << 56);
        Due.is("18: two keys", x.told(2), 2);
        Due.thrown("18: no snapshots", NO_SUCH, () -> x.get(0));
        Due.thrown("18: no batch", STATE, x::commit);
        Due.is("18: again", x.reopen(), 26);
        Due.is("18: the first number is free", x.snapshot(), 0);
        Store y = off();
        Due.is("18: as it is OFF", y.reopen(), 13);
        Due.is("18: on", y.told(0), 1);
    }

    private static void promise18Power() {
        Store x = stored(1, 2, 3);
        long map = x.digest(-1);
        x.snapshot();
        x.begin();
        for (int k = 0; k <= 400; k += k < 60 ? 1 : 85) {
            x.power(2, k, 5 * (k % 60));
            Due.thrown("18: power fails, " + k, POWER, x::reopen);
            Due.is("18: it is OFF", x.told(0), 0);
            Due.is("18: SIZE", x.told(1), 0);
            Due.is("18: keys", x.told(2), 0);
            Due.is("18: batch", x.told(3), -1);
            Due.is("18: snapshots", x.told(4), 0);
            Due.is("18: commits", x.told(5), 3);
            Due.thrown("18: it is OFF", STATE, x::put);
            Due.is("18: SIZE", x.reopen(), 39);
            Due.is("18: the map is the same", x.digest(-1), map);
            Due.is("18: nothing is wrong", x.check(), 0);
        }
    }

    private static void promise19() {
        Store x = stored(1, 2, 3);
        x.snapshot();
        x.snapshot();
        x.release(0);
        x.begin();
        x.put();
        x.put();
        int[] on = {1, 39, 3, 2, 2, 3, 2, 3};
        for (int what = 0; what < 8; what++) {
            Due.is("19: told(" + what + ")", x.told(what), on[what]);
        }
        Due.thrown("19: -1", ARGUMENT, () -> x.told(-1));
        Due.thrown("19: 8", ARGUMENT, () -> x.told(8));
        Due.thrown("19: far above", ARGUMENT, () -> x.told(Integer.MAX_VALUE));
        Due.thrown("19: far below", ARGUMENT, () -> x.told(Integer.MIN_VALUE));
        x.power(1, 0, 0);
        Due.thrown("19: power fails", POWER, x::commit);
        int[] off = {0, 0, 0, -1, 0, 4, 2, 3};
        for (int what = 0; what < 8; what++) {
            Due.is("19: OFF, told(" + what + ")", x.told(what), off[what]);
        }
        Due.thrown("19: OFF, 8", ARGUMENT, () -> x.told(8));
        x.reopen();
        int[] again = {1, 39, 3, -1, 0, 4, 2, 3};
        for (int what = 0; what < 8; what++) {
            Due.is("19: on again, told(" + what + ")", x.told(what), again[what]);
        }
    }

    private static void promise20() {
        Store x = new Store();
        Due.is("20: of nothing", x.digest(-1), 7);
        x.key(0xFF01, 2, true);
        x.value(0x80, 1, true);
        x.put();
        long one = ((((7L * 31 + 2) * 31 + 0xFF) * 31 + 1) * 31 + 1) * 31 + 0x80;
        Due.is("20: of one", x.digest(-1), one);
        x.snapshot();
        x.key(0x10, 1, true);
        x.value(0, 0, true);
        x.put();
        byte[] low = {0x10};
        byte[] high = {(byte) 0xFF, 1};
        byte[] value = {(byte) 0x80};
        Due.is("20: in order", x.digest(-1), Due.digest(low, new byte[0], high, value));
        Due.is("20: of the snapshot", x.digest(0), one);
        x.flush();
        Due.is("20: from files", x.digest(-1), Due.digest(low, new byte[0], high, value));
        x.remove();
        Due.is("20: without what is removed", x.digest(-1), one);
        Due.thrown("20: no snapshot", NO_SUCH, () -> x.digest(1));
        Due.thrown("20: none below", NO_SUCH, () -> x.digest(-2));
        Due.thrown("20: none above", NO_SUCH, () -> x.digest(8));
        Due.is("20: the key stays", x.told(6), 1);
        Due.is("20: the value stays", x.told(7), 0);
    }

    private static void promise21() {
        Store x = new Store();
        Due.is("21: of nothing", x.check(), 0);
        Make.value(x, 120);
        for (int i = 0; i < 110; i++) {
            x.key(i * 37 % 110, 2, true);
            x.put();
            Due.is("21: behind a put", x.check(), 0);
            if (i % 7 == 0) {
                x.flush();
                Due.is("21: behind a flush", x.check(), 0);
            }
        }
        x.compact();
        Due.is("21: behind a compact", x.check(), 0);
        x.power(2, 3, 3);
        Due.thrown("21: power fails", POWER, x::compact);
        Due.thrown("21: it is OFF", STATE, x::check);
        x.reopen();
        Due.is("21: behind a reopen", x.check(), 0);
    }
}
