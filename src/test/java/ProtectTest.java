/** Promise 4: each right of each page on its own, and wrong inputs. */
final class ProtectTest {
    private static final Check CHECK = new Check();

    public static void main(String[] args) {
        for (int page = 0; page < 4; page++) {
            for (int rights = 0; rights < 8; rights++) {
                loads(page, rights);
                stores(page, rights);
                runs(page, rights);
            }
        }
        wrongInputs();
        CHECK.end();
    }

    /** A core whose program lies in another page than the one that is protected. */
    private static UserCore coreWith(int page, int rights, int w, int address) {
        UserCore core = Words.coreAt((page ^ 1) * 4096, w);
        CHECK.due("protect(" + page + ", " + rights + ")", core.protect(page, rights), true);
        core.set(1, address);
        core.set(2, 0x1234);
        core.poke(page * 4096, 1, 9L);
        core.poke(page * 4096 + 4095, 1, 9L);
        return core;
    }

    private static void loads(int page, int rights) {
        for (int address = page * 4096; address < page * 4096 + 4096; address += 4095) {
            String what = "load at " + address + " with rights " + rights;
            int from = (page ^ 1) * 4096;
            UserCore core = coreWith(page, rights, Words.i(3, 4, 3, 1, 0), address);
            boolean may = (rights & 1) != 0;
            CHECK.ran(what, core, 1, may ? Check.is(1, -1, 0, from + 4) : Check.is(0, 13, address, from));
            CHECK.due(what, core.register(3), may ? 9 : 0);
        }
    }

    private static void stores(int page, int rights) {
        for (int address = page * 4096; address < page * 4096 + 4096; address += 4095) {
            String what = "store at " + address + " with rights " + rights;
            int from = (page ^ 1) * 4096;
            UserCore core = coreWith(page, rights, Words.s(0, 1, 2, 0), address);
            boolean may = (rights & 2) != 0;
            CHECK.ran(what, core, 1, may ? Check.is(1, -1, 0, from + 4) : Check.is(0, 15, address, from));
            CHECK.due(what, core.peek(address), may ? 0x34 : 9);
        }
    }

    private static void runs(int page, int rights) {
        for (int address = page * 4096; address < page * 4096 + 4096; address += 4092) {
            UserCore core = Words.coreAt(address, Words.IDLE);
            core.protect(page, rights);
            boolean may = (rights & 4) != 0;
            CHECK.ran("run at " + address + " with rights " + rights, core, 1,
                may ? Check.is(1, -1, 0, address + 4) : Check.is(0, 12, address, address));
        }
    }

    private static void wrongInputs() {
        UserCore core = Words.coreAt(0, Words.s(2, 0, 0, 64), Words.i(3, 2, 3, 0, 64), Words.CALL);
        int[] wrongs = {-1, 8, 9, 15, Integer.MIN_VALUE, Integer.MAX_VALUE};
        for (int wrong : wrongs) {
            for (int page = 0; page < 4; page++) {
                CHECK.due("protect(" + page + ", " + wrong + ")", core.protect(page, wrong), false);
            }
        }
        int[] pages = {-1, 4, 5, 4096, Integer.MIN_VALUE, Integer.MAX_VALUE};
        for (int page : pages) {
            for (int rights = 0; rights < 8; rights++) {
                CHECK.due("protect(" + page + ", " + rights + ")", core.protect(page, rights), false);
            }
        }
        CHECK.ran("all rights stay behind refused protects", core, 9, Check.is(2, 8, 0, 8));
    }
}
