/**
 * Answers that are due, made by another program than the one under test: a plain reading of FIPS 202, 203 and 204
 * in another language, whose own hashes are a library's. All inputs are Check.stream of a label; what is long is
 * told by its SHA3-256.
 */
final class Vectors {
    private Vectors() {
    }

    /**
     * Set, case c; SHA3-256 of the public part, the secret part and ciphertext with secret; the secret; the secret
     * when bit 5 of byte 17 * c of the ciphertext is turned. Inputs: "kem keys SET CASE", "kem message SET CASE".
     */
    static final String[][] KEM = {
        {"0", "0",
            "88a46d9fb4917457b7e66444af956eb8a228905084632c663ee746427f268f44",
            "eb77891ee81be332692750a783e6309cde46a2a1c39877ed2fced7678071775a",
            "a72f07c938be37c77783b24568e7fa5d9e34d9278d75997ceaa19d18372ab0d5",
            "56514094afeba3f80ee79508f3a306d457b6c070475c91c8121cec59ea76517d",
            "2c682520c856c219e2d0df446809bb0d9c7a9fbc5c2245c4ba1d7f4995856ff8"},
        {"0", "1",
            "007ee8d9e5e931f0917fdc5be0351065acb2ee9be2022b1d2e3eb6b1f2a2eead",
            "1d090fbab919856368d094ddd13768343211cab0867000db71537ebfca2c1eb4",
            "741b22a24ce337cad49293b2cc21316d1ec53140b250af55463e2d95fd232f31",
            "0f478160f7a30ff7ef26c3687a4ac24c9d42de32af0c61352237da8a587ab761",
            "12253a0bf478ed08fe0bc247fb323bc69cd68d6397309b17c37d39876b0ff6c6"},
        {"0", "2",
            "3dd7f811e4b16281a4674c608e7fe914d6e5f02f76f5b03812440dcda7d9d406",
            "c0cbed8a6c334c62a10fa1ca101623624996d4bc90653ec1acc96ccfb7696a35",
            "0d179363caa635b4523d0e3d81d0a587008d304c4342b22ad25f73740cd5719b",
            "df44c72d053df51e3639edf6e12f074914027349074d9880ec2e26a120ea0a9c",
            "3a401238df2dc8f61774a3e286afe35983d6ddcbd09d9ba097bdaca7e9e8e67a"},
        {"1", "0",
            "c48b7e7eba8052ddd29ff6e4f21ab4b485903c608aadc0e692df9e545c54fa2a",
            "70479796f92e36de9e257fbdaa7cf51135b5b3d81d399cb322ce7878f51d0a67",
            "a7043948af72d817b53e6a0a278637a7d35ccbcae2bd999d96ba389a002304e6",
            "b5098c5c368eb322578549ddab4930f74309db9cdd576eeb4c90ca7feb645ffb",
            "6b6e2c8b61497e9192c79daf4b2d8dcd0a53a3ea2fc6e76a21d42d41d7612f72"},
        {"1", "1",
            "1f3ca640dd600ecef21d6a363a3d73c159ed1d041b60c99b32f1bcf237a669e6",
            "b26dd8ffb5eb58889e600281914c3183a1511b774c871b0d9c5f2c3d89e81363",
            "31f6d6a980c0beefe951c3691a4d5587f0aee620cf17bb9ca7411d3dedb90a4a",
            "8fe33ee66208b5bd245952dde262255deb766a6d33ccef179d5bf19313f33106",
            "b40cf7277066b0ae32d038c4437ad32383d3f7f8643939d4af0bdaea4226aa10"},
        {"1", "2",
            "5b73400abd5f2309a69083c8ffdbded89fed3f410c961a2ca814097ed6c2c0b1",
            "8e120353a9d98bd7564eedcdbd390ff89b2dcfe603119dd247b6714f4a311b60",
            "e076c56fa0ed5cc9ea3f0b66e7b68c28138c59965675da3d520e31e915a970a0",
            "119c5d25ddb1c0ad743d1cbfe712ff273b6d992021a8e9ae4b231f7a1966cfc5",
            "e7c65fe8ae22a719bce4fb3cdd691316c135ecb510328ab5092a0e3cc08ccbff"},
        {"2", "0",
            "ff9bfde363d96e1dd4cabd49d401fe9743f8422b475b91eb2411a60a2e44c3cb",
            "90da7475248ad6d053355c5a118159e2dcd4cdcf8b025e5f80e1b3002ee2a586",
            "0df8329344697987a03c9381f58e4a08ac85cbaf31c2248cd2d8b3b2d92bf971",
            "279128fccb9dd552bc68f8d0f32f9d065c8048c811985b027cac35b778cb18c3",
            "dbfc5ca0f0582e29aa51a1ba87ee694208a9c239a572a39933d72ea9d37914f2"},
        {"2", "1",
            "03043fb6d31bd62d52ee2e5ba03e6020d97aff7d724e5397295faa8728533423",
            "1d40e5e55dcbbaa2f5673ba2ebd2a16da23dba2abe41b16a9a40bf012324dae0",
            "a1015b088de56c817394868e8abea9a75c88ca7d816e21e61f6f96755f4637d2",
            "0707097935f1e1f66aa40aa12590066a15434b3ca824893b2f3936535a54d403",
            "78a4420fa5af24323b033d26624f17e0b6b2cf517c5198b786fac5782a0157ac"},
        {"2", "2",
            "585e89083da2c10c8b9755403889f78d4ba7de61981170e8992860b2e65d8318",
            "52dbe7a67e49dfe00fd80b3b4cb2f3ebd6f2d012ad6379fa0e50cc86db4983d9",
            "ed70ef3f90f302b38052e6c9c865f81e34c5f8f377a973cf9ae46a9527a78600",
            "a2b5c1ec26c316cef87f6c3191ef7cc720f9e2a3680375305e9c61682e8cf572",
            "224a6a741d883771673d62c8589849300950c101ac894bb4196dbe5ec3f512fa"},
    };

    /** The ciphertext of set 0, case 0, in base 64. */
    static final String KEM_CIPHER =
        "FSaSFWqKI88qnkl+Te0W+sHmh94tXA0mXaJp+iaS90BBACJqMCnD40X49a6bKQgat0OygU/rhy7bbQgGs2vOHG8sPNLxuNMzRKNl"
        + "c5geSySSvHb8lPd83SeSESTF5Cx/JlMt9sXHsyzpierfKjfXG2/E87o6nDRrt99OgtczxCQQa0zwqIrtoZsfSJ6v/rD+/F+Ks22K"
        + "s9VcxhmRSnPTNThP9hQnqdwc59Iv0uggjjpTOZfo97Ql3BRAV5oU9wr0NVgzKgYix/ozr8knTjQilEGKfYQHhOUTEICh84Cv5FNJ"
        + "fUj1ThiK2qQQMtjYj7cq7zNy+Wx2W9fJVrigTM7V/iH2bR4N84nEfLJTnPUIPRCCxOXuu2vRIF7RovwOw4HsKUgJA28QnZZrRKHQ"
        + "6exFhiqfpGUjhQsw1gGbvKoDUI2OTXSDEiVSZ8daYKMeyWKmYdc8c177GPeBylXU99dQaAg1ZL8e/rV2zvxLZ10736MwMABF0TRe"
        + "ckLQNbb9Uayi3h718PahXGV5JPXWFLV+QXfULHiFaXIbkPv/TPWHJgwyQv7mLSusVHySdDBC5kSMXm8reJs9WpZ2GenHaHJ+CibA"
        + "4LNX8Jwgi0HTzlcS6Of0HcLowEnvmY5e7YUeo5NUgnOspu9jqkbySyfO82zMi7wmXSpI6YaW/2R3gvyrKAzUXQGfXQplFnfEC94F"
        + "+HwKK07xoWAES9uu5zwsVLkcD5RyYjW8msL36vTpsPCIkyeUHyu9NkW/Vou4u4tBvy0g2wWta+AkJeGxaUY1MXXlOA4Kyp/jyQg8"
        + "3Nlqu+ZlK6Xq+H8DSM6Dr0jzOzbmi5wCKLKTL/TAGtT3vR7TiJ0ZOFfJKW3fNEw1uPpfyAkgmuODnD0C0gkg+iYowzwTBaR0SVAM"
        + "SWBwL+YNSX6lCcg6qpJ6LRDe6kPUFh1piu8W59n1CTS7b+xRzSGZN41/Hgs7KIWA4kNTuw9S2QJuQh9o+z5gRA+qL8ocoWeEKsyC"
        + "3si//0CMZtUdi1eC5CdnuKT4";

    /**
     * Secret parts whose numbers are mostly not below the modulus: set; SHA3-256 of ciphertext with secret; what
     * opening that ciphertext gives. Inputs: "wild secret SET", "wild public SET", "wild refusal SET",
     * "wild message SET".
     */
    static final String[][] KEM_WILD = {
        {"0",
            "70485efe74f0c7827d74d8bf6352220c07f929465f2ca51c0cfb9e504be78aa2",
            "8656ae2e00d779a8ed1dab6841ec54fab354ee14db97e116d0fed9fab17307b5"},
        {"1",
            "eda880171c9480fb2a77d5ceb46af878494ac3ddfbe62f6ca78f37a871fb3639",
            "787175d4d98c4ad5bbd6defe169f5ce0ca6147cab2664209edfe8e416030cf9b"},
        {"2",
            "4256cbc42a8885d0dad650228316a432dc616e681b93527690efb07fde71b564",
            "c87469a391c914b2ec0df8428e173f784674dfe45036e3222cb6957d79354e20"},
    };

    /**
     * Sealings in which a number lies just at the end of a step of rounding: set, case, SHA3-256 of ciphertext with
     * secret. Inputs: the keys of Desk.quickKeys, "round message SET CASE".
     */
    static final String[][] KEM_ROUND = {
        {"0", "115", "9a48d225e4ce51fa8c624a79f9e0897001ea182008ea919b7e846d21b15f48b3"},
        {"1", "140", "9abfcf747c5ad58377a075e534b668eb1553a8a9c6a7e08239b90da1aeae7bda"},
        {"2", "91", "8f0631f238354e3e7fc69d14d445ef22c9b9a5c4c6b01ca4f678001718e1beb9"},
    };

    /**
     * The first numbers of a secret part, in base 64, with zeros in place of the others: they bring "edge message SET",
     * sealed with the keys of Desk.quickKeys, to 832 or 2497 for each bit 0 and to 833 or 2496 for each bit 1.
     */
    static final String[] KEM_EDGE_SECRETS = {
        "3VMm8Dul4Uts3qW/qCMTQNS87VcW17i2WNsfFNLHuwvE2AtGPJGV/zhvy2yoJrEeNjC4Qxp0HWCOM7M94aej8pdLtLAFl5rBy7k2"
            + "UYEd8edo4rBSpDYsD+tmw3OFQMUiUBcQ28okjJWq/uZh2co7XgWzNXqDjTh9HWelzBhcdkhftCGXqkEmtTsv/HXBlIkuPPeFJVRk"
            + "weeLL2M4rzq6ZyVSSdrMRGGdfrx7m1dHkBJ2RUFAQoqV/RUCYvA3GNKx4zArhJclzalOYfYkWbAdNwVuhuJLioZ3Oll3xlgy5FYK"
            + "StgcAiOztdc76GS3fkya8lcXkFByJMWrgfaC0WqbQse3UszIj5d2CropU8youKTGCaWatfoUDtxu6ZBha6G1CysjpkO1skojogbO"
            + "NHGzSzInRjXEg1W6khwB/sNh7IGFpPM0LMR+hfubk4l8zQZXvbSFw3C32FVLqCZdfQMLetNXAXU4/tUAZzy83SUuKhEBrNS69DSB"
            + "lYUxpba6bHYx",
        "F0e7vczKtMA1LVChKDYljtxBt8ufc/ufbptD8Kszz/FBKMVZSQgeOlwYa6UuJqMK07qLv9ANO7gPxTLLOiJzjMyDidjAoDFCx3hr"
            + "TwS+R4JFrvgLVLwbMaF3otFJbex7exxe26jP5KwJLMM9jZcZj5nFXAFwalKIhXCWvXmqnDa5hzcBGKMmBpuRsQUsakQYz6wfa1uF"
            + "xzw2CRZfz9UUBpemIRiaj8VFIRYRjhBebFEK38Qw81mZQZeRdKULpsrAOKVouGQ4JHpLbocopspK8xue5eNPYKgM1PM0wpvHzyeK"
            + "AjKMGatuHCdti3i6sZqaRPOaL7Qq57h6HUdibtclSYkKpQwzb+kBCmuUWUqCjwsTLgQT3Kox2NYp7sMbs2hnMxNiOUUKD1vFCpfG"
            + "nLUeKISMyxS0UYDINWJE7oeTDRsxl+WR6RuhuBklSmkMbqsMFDyeIxo00ypEB6Clx3TE5hKDUUCpjtYqJSqboVlQLykGupsXYVfM"
            + "cGGYKSgE0emh",
        "batYS8qHA7t517EgSPNHpEo20OiSAHi+hPbF6ODMSQkf5YrEzfc8ZjK9a+YEQreyNuQNRYYCHVvGdjVp1cECg/iQKktpQbU1I6l+"
            + "RyZnQEcaPHqSIpaBFaluxyB+GOYumuVOD8FMSzww79KW1tRoHUZ5SrZfnsaFC9lWxgIH6fy4EoYHJ3xPc9k/emeWgolRjhlYNrlM"
            + "lvFCK4nOktwcnlYTxDip10o6W0QzpQUoF3RAXtphNaMaguK+JCaejEqV2VpMilHPLCG4Yhl3QnlD14lTbeaS5nht9vQDWuOGaxO+"
            + "nLldgwmzUYhqZIiF4ycDqoeDIzwG/PUXyFgZoiwYUppsqqQHM4EPNoU0fUGAyiVi4kMIDwLMhoIOIQOohTa/jkWRN5GeRGZTQtYu"
            + "0IJDFaxZt0y3y1iIAHkRvyaHySLEWrhh3lDBdBxDuNJQ9BGpUQMkTXpa4mUV5YBvA1GGkQcK1xdAPRptQKi7uiOY5Ll/nWm3e5Or"
            + "SYlBFkWeLypV",
    };

    /**
     * Set, case, length of the context, length of the message; SHA3-256 of public and secret part; how often the
     * loop is gone through; SHA3-256 of the signature. Inputs: "dsa keys SET CASE", "dsa tape SET CASE".
     */
    static final String[][] DSA = {
        {"3", "0", "0", "0",
            "d9e2a2408c15c392ecb883b9851b29b194f25c73bbbdef464ea10449ec73df19",
            "a2757904e0d4500f6b8ce0ba6073ebd3a888b5ac62077f0e87c7311b6db7348d",
            "6",
            "e47587955b9f89b9842dadc395e57178fdee61213334299827de20c29b00711e"},
        {"3", "1", "9", "70",
            "8628a865ad13e7373eb513239ba13da903184021019bf533e52d88d7c3b6f591",
            "ec3c0b6a339d15139128a25695bda50b13ab6bab012c9033ba5ebe6cd2b2029a",
            "2",
            "3943899d6ac93f6197610a3109b4070aee4bf157afe247528a467e70e4af8b44"},
        {"3", "2", "255", "1000",
            "eb6025b62e169ee85668caab2ae935a8142be235238df26f205bd5e996298999",
            "9301d315047c90f0ce75fbbdf672a86edf65cafba03a70129fd3d14fa3c5f0a0",
            "1",
            "835b366ee478f132cc63e8df2253c0dd284ec3a7d9bbfdf7b1242502f9e791d3"},
        {"4", "0", "0", "0",
            "5f5f7ae79a4e2c5514dc9bf4829820aed4c4b0ca857b92a8acf4b7f795d28c97",
            "cb00c304ac512bdd0596034c9d60aef4f0b89d0b6a04a3ff97a8cbb04217fb56",
            "12",
            "cace9b4236141ed4706e4084ed6fc680508a28d2cd9b5096f322afaf543582b3"},
        {"4", "1", "9", "70",
            "ef2209ba32bb6ddb57cf7adebb46105a7c705e8a2c52d59daa3e796482eb1e86",
            "193c8ccafd8c27558288e5dbd64dae3ee7d562a5a569184cf6e5bc6a0e8b1772",
            "1",
            "d71d6a496f710b4449b03b9f6d7b7743f96cd1dbc031217d952348dfff4afc43"},
        {"4", "2", "255", "1000",
            "071c8f2975ed685b9b524811a232eba51c799bb4354170c5e43132f6e0c35616",
            "a08598f8ba0b8cdffcb384a4631aa26c9b31eb5707aecd5b49611e779680e76a",
            "3",
            "b4443e1239b7fb47ccba731ee7b030a539e2b369288acdc0968958806143df44"},
        {"5", "0", "0", "0",
            "33eac11620766526d0f3ca2b7d2c1dcf1ab33406593e147e7bd0f5ba5554f65c",
            "1308d1f43e87dde5574922b8be246e16ff9d62ce9c47755b1d12cff78c00f1da",
            "10",
            "200da40797332de0b0a4780c17e35839ca6fe500e46fe83e5c134f41ae85645e"},
        {"5", "1", "9", "70",
            "6eca91dfed57c83dc01f0ea8df0002a1e17acb7b74c03f74bbf3970c2880fe79",
            "84a8d630e0e26d17f03dff2129e90ee5be5aaa89a8832cd770bd9e7e0c241d14",
            "1",
            "8913b7740b7ec57c299f2cfb4b21231cbbebec969d56a506c1adc019cfe0bd7f"},
        {"5", "2", "255", "1000",
            "4a696c602de320390333ac8a021b996cbcc3cfca133ac6251a03c06029badbd7",
            "509d83f2ba3a1076eb464d67bf276e428304d9cf1660b6efedbf4d7a18fb6c21",
            "9",
            "1f7281f4062a69865dfc8df7e8ea68ad5c51f1161c2c3828625a9caeabba6294"},
    };

    /**
     * Signatures of nothing at the edges of the loop's tests: set, case, how often the loop is gone through, SHA3-256
     * of the signature. Inputs: "edge keys SET", "edge chance CASE". For each set, in this order: a pass is refused as
     * the answer's norm is just the bound; as the rest's is, above and below; as there is one hint too many; then the
     * pass that is taken is at the edge: of the answer's norm, of the rest's above and below, of the hints' number;
     * last, one with a very long loop. Then for each set: a pass is refused as the answer's norm is just the bound,
     * below; as the rest's is, where the last step is the first again; then the pass that is taken has a number just
     * between two steps; (sets 4 and 5) has a row without hints; has an answer at the edge on the other side. Then for
     * each set: the pass that is taken has a rest at the edge where the last step is the first again; its first number
     * is at the end of a step; a pass is refused for the rest's first number alone, and for its last alone.
     */
    static final String[][] EDGES = {
        {"3", "47", "3", "cdf1bc3e4fe315d11d7b71cf64bffe7075c2f5bb8079ea9f6c7bc41ebe409718"},
        {"3", "50", "12", "c6725fcb7c7b9ef3ec258aaff2bee3261a05ba6e1e33f1c84400381e89cae36a"},
        {"3", "28", "4", "9d63f2537861f67048144125029077f11af03824f8298f11bb7caa50ab87f1eb"},
        {"3", "151", "6", "3bad0aff35145828b384373f9124c2e152032fc7b6cc9d653e78ec4f4b96801e"},
        {"3", "67", "4", "219266a8ce47f70f218b82547fff39d20f244c7960250a7ae8c157d4a5f15877"},
        {"3", "46", "7", "2e32649b4b8702a9de3b712c26b12671e95a008e50186f0af4565eba6746ab60"},
        {"3", "1", "4", "8010a1d3204727b1a3b997701a0ad174b5d9aca0008b36eafb9a6525e5c0a893"},
        {"3", "693", "1", "d3f61034bd53d44b6a74a2e98b7ddeb1d60e9a3189da715bb70efd24eed66f54"},
        {"3", "23626", "42", "4e4a33591d1456f1e403a7a91c1fa23513a7258197f76f8e148c622b4727959e"},
        {"4", "147", "7", "d49a8e83fcb0550f36922aeb31fe92c25c03aee32fc91e9be035ffbec62c9867"},
        {"4", "68", "8", "1f7204f3c112241c6f0a5dadbc2befa95af71d5d0effe9755ef09dc21b1d6280"},
        {"4", "420", "3", "2e8d64e5b70f4985a51a26a9a828890d22f71a4bc21ecaa7ac2bf7050ffefd96"},
        {"4", "1043", "26", "76bdd1d9a336177c0db73a02f735588daabfacf8ae611237990d3ac99c4ec4df"},
        {"4", "76", "5", "98e60d32da9ed2b428b1d5d4b968f77d0cb5220d33f7365630b24077a387614b"},
        {"4", "207", "7", "f9e126f3ca2fc872a6515703811a47107d5d2266d61f162520b95d789695061f"},
        {"4", "80", "1", "1594f0c6106c40622a8279e6303a1d8a7cdd1ac5f50a1a88104af19f614030a5"},
        {"4", "322", "2", "f96ddaa3325bfb6381fd44adfafe1d929381a1813862e5ac7f217df95c4f49b3"},
        {"4", "24897", "71", "b8a65cd5b81f0910d7b0c64a5180dcac9efe0feb3ef81faf4e44c19b99af18ac"},
        {"5", "592", "6", "8c36e2dcd7e01ce6de4d39b69e095bcddf13781be61a40ccb249226c011017c6"},
        {"5", "14", "5", "381313fdfa9f39f3daad10a13cf3bd082895535b2066651e156fa20cc3ddbe4a"},
        {"5", "51", "8", "dad037ae9693d5abff278041baae7206ca3eeb0a029071e702daeebd67a0cead"},
        {"5", "73", "5", "4149cf6ab7c6efb22d43443e42670abce5bd2426648e6599627958edac362e8c"},
        {"5", "201", "1", "d246cb8158a240f28612b51ab4ed1953db881494a1abe032a2b23a5b48274e25"},
        {"5", "18", "7", "304baae6231f310848218d6a34716f5e68251b2c6da14188763516211362650d"},
        {"5", "232", "4", "b791cabbf18ee5047f4d177d9fc5940f499ef7a0ab8410d1a849600c2e361e06"},
        {"5", "429", "1", "5ba33b1071e8adc74b4cde2e75ae48099c5852a0ba176a01d9a40af80d08b24a"},
        {"5", "9736", "38", "321e509732baf9f39f9aa148d9c76ecccdd792c6acfe58b13278d24ae9d6e3e2"},
        {"3", "55", "8", "fdd84e769008eaed450c4c02f60a6ab8881bca6adaa7a0d9808f17176ea2649a"},
        {"3", "185", "5", "684cf3bede7c75cf1b3199b57ae31e700018d501ba601675144c759bb20ed3d7"},
        {"3", "1053", "2", "c934157d233f4f81c25773c90c68c9788de08046deff7026a0ba4f4b350889be"},
        {"3", "197", "1", "19fb137a6871ab3099293c88c309996db24e3246dc2c51dd0711a04969d0ceae"},
        {"4", "1098", "4", "4cc269a94f1853a6b0f87defee71b6fd3bf165df523da0985098708dd56d7c53"},
        {"4", "18644", "8", "eb09abe6338265b21003d50fb04c315749a22a907cc7e86d1de762622f66099a"},
        {"4", "108", "6", "a95b4b554a04666927ece297f9b154aeaf946e708a28c5342f60c4d38687b85e"},
        {"4", "13", "3", "19524dc55900de4115f6e45d8836233bd2435acfd88a0fa8c30b79eec3435825"},
        {"4", "966", "3", "58b653f89f49e80b6f1589f72f72880cbfc919b05b8f56f91897c65d63e9824a"},
        {"5", "710", "8", "8c4d3646292071d101cd15517985fd678a5aad05416187a6c8cfc12d46507a11"},
        {"5", "1721", "7", "6717610f640e4c80586b3f5cd2d7b40a05ac37f074c8b79eec1dc2f036e6a499"},
        {"5", "114", "2", "5a84cdb444f68cad4103638c52b09ab799685e739dbf1fc86a07bdc13672ff96"},
        {"5", "52", "1", "7b4fc174f17f6b329f42741d285d169a96fd8b221037a644bfc5692b718d298d"},
        {"5", "539", "5", "eea893f6d47eb82a455599922b58f89270ba835c15b17defa55387890db4cb66"},
        {"3", "24781", "4", "752440f79918356527f61a54247fe6375805ad49d2d34030954ed60a7f343151"},
        {"3", "1085", "8", "b6eae0597a473db1d342e771ae61f7bc2824561f33a2290eb04fc865c556cf1e"},
        {"3", "131", "13", "df1457fb51f58f9b197a59e09f213b0a9ecfef23bfeac00d3b587a00fd8667c2"},
        {"3", "502", "10", "d48c99c947cb995da26ace6a0317219814b55b89a13b3e74f83218d5e9de04c8"},
        {"4", "1274", "3", "81c85ae5b47074287e5e61854b0e94365a5695cb74fbe74641f43ddf55a447a1"},
        {"4", "88266", "2", "ea9e4b389dfb23dc02415f6bb454f7a732de09758ed4a35b1ef1b61017976680"},
        {"4", "270", "3", "d710d3d867b3a2604fc01ae0c54a1ba1978790d2645632e7aa687155c69c97ef"},
        {"4", "144", "6", "50664a7468b441a6982bd4ce4d2cf105de0718f521ca3eec10091df466c1e618"},
        {"5", "1876", "8", "64375c4f0c8d18ef4355b70257cc58679c80546971a05f51f972d2a617048266"},
        {"5", "21838", "2", "c0ab3b660c9e14c423d6ec2720261d0210c9b25d0832c8337debd2818cd00688"},
        {"5", "33", "12", "d9d211f4bf6b35b00dd6c86457181b9e3c06b7aecb20df98c3c2733e21aaaab7"},
        {"5", "210", "9", "aa4c487a1992e85c1f141b6bb156aaae0a89779920e42779703cf9b8b461fb50"},
    };

    /** Keys whose matrix is drawn with the modulus itself among the numbers: set, case, SHA3-256 of the public part. */
    static final String[][] MATRIX = {
        {"3", "1483", "c3016b926b8f49110a571a508f2e717fc3bfb95debdf4a3c15bf55568ecc9c97"},
        {"4", "1207", "9c87d179d8406657663fb74e497d531a4ab5df144d0ea0762123e54ca5eaff3c"},
        {"5", "245", "3547af9c217451d00f0f65902b4f35355cce8eab2530f18aacd047cc8ae2f59e"},
    };

    /**
     * Keys in which a sum is just the modulus, so that a number is zero: set, case, SHA3-256 of public and secret
     * part. Inputs: "zero keys SET CASE".
     */
    static final String[][] ZERO_KEYS = {
        {"3", "8581",
            "3baaf83cfec2fec48b3dd53d540ca38cdf51c40c55cfef3a6bacc6ce4ecaf91e",
            "23e829227b7a3d1c2a9dad2b24d6097c33a3783e06891dbf680835c8a258a6b3"},
        {"4", "22352",
            "192bb36c87214fb8654b9b3b18d8f4481e484a6b64ca876c066655e58d56342f",
            "693b5560c25fa10195938b0be4efac3f11f22c6c655c59b2f7a84aa39bc02e58"},
        {"5", "553",
            "81170c12962ebab7328fcb451508e4da53fdb32b5daa2070e1365ebf6572162a",
            "bea2291f81e10b14c3a3148b044c2e7fc7e48810892c55c07469708372b84d55"},
    };

    /**
     * A full tape, twice 8,192 bytes of SHAKE256 of nothing, signed with "edge keys SET": set, length of the context,
     * how often the loop is gone through, SHA3-256 of the signature.
     */
    static final String[][] FULL_TAPE = {
        {"3", "0", "4", "8140de730331823e6d8dd6a9f806263dab8d9de012dff6b63cbba352c1644f67"},
        {"3", "255", "1", "196e4687132f41523199321c29a6e3331888323772ecbf6c05cd688a21b05688"},
        {"4", "0", "5", "f94000f215724fcd4bef529071c9f41cf7a65cdc78c4146da1b462d46ad36bc6"},
        {"4", "255", "1", "1a588dfcadd4e7ddf2925c406ac20faeae3324fbff35b716896a003811a11522"},
        {"5", "0", "3", "b40cbba868a1d47ea8afe99846af827f9f38bb924091117b5ad2748c389bc7d9"},
        {"5", "255", "6", "15e52a07a1ccda4b17ec58beef20ef8e53737209f3548bce524a956e1f09acda"},
    };

    /** Kind, length of the input ("shake"), length of the output, SHA3-256 of the output. */
    static final String[][] SHAKE = {
        {"2", "0", "32", "1f32c4b1a965fa9033b785c2a24b81dcd1bc81e9be0c204f20fdd15092bb6d4a"},
        {"2", "1", "33", "d0db44c1857eff2a87f4728a4fdd86fd99f19680dec438590e868ac11df16cdb"},
        {"2", "135", "136", "501b678152ac7c782144bd1bc67c55fc49e41d0515d383c3be1f0ed878430b89"},
        {"2", "136", "137", "6648036c0874f4d7854989487b9db767aa6c56297c5a4034f6c3d9454efcb75b"},
        {"2", "137", "135", "fd75be0f54b68c3fcda698fad8bdb13a22b4860a70ff29b3d2d04b714047814c"},
        {"2", "167", "168", "000b86fd1eab062901be0f3c37d11a12cd94426b160cb6a4dceb5f2a2216454b"},
        {"2", "168", "169", "b9b3f1e57a0033557d75dc8b3c967cd36c5af42f0d9a16afef02251322b527ac"},
        {"2", "169", "167", "71cbe5d629f615a200a2d954ebfd1e7c68f49346e57bacc5ed7d25b1a5eb3b67"},
        {"2", "200", "512", "079774be72ca20e84afc843928dbd23a53ac028ec13985266faf2a3f97716f1a"},
        {"2", "1000", "8192", "f7f2271bf15b93f35e6173856f206329d8344289052b3212d25abe374aa59e1b"},
        {"3", "0", "32", "46b14d3a928b31be5d9f6061fd205dd3d18098988afe3f1d5582236c4a55e937"},
        {"3", "1", "33", "80a3848b2bc8ccfc33cf59abdc54abff3a5c0368c87bda43a2c5145b57a2136c"},
        {"3", "135", "136", "996e4ba4e61007beb2beceae0858c798233f313cf140e4536fd1e2b514b68f9a"},
        {"3", "136", "137", "801676cabbeb55a009801dfe1180a68d9e4ed6c0bac6bb7805e0ef43075c5a6b"},
        {"3", "137", "135", "7a73dbdc9fc3db39812a987a887dc729bc92e8383dcbd035400f9c567dff32ee"},
        {"3", "167", "168", "4fd7b3aea6042a0f3a44b74a5b665aa5315decf85790a86e29c9dd59ca52f9a6"},
        {"3", "168", "169", "7bafb7478de2fd9c9ad3b888ad903ba44509055af7988a2b39abc0f6243c54b7"},
        {"3", "169", "167", "7c831baa04b4277b9287cd33bb1f64614db6fc3b092935af7e57c2040d8bb9ce"},
        {"3", "200", "512", "1703446c0100e2d2f2b8015212edce7666bdb5c44b8a0c6ba040e2af242c9d89"},
        {"3", "1000", "8192", "2846f05a6f8b8954bc68aa49d55bb4803f05cfc52b0ee9bbd0b0c8d0fde0389f"},
    };

    /** Kind, length of the input (8,192 bytes of SHAKE256 of nothing, twice), SHA3-256 of 8,191 (or 32, 64) bytes. */
    static final String[][] LONG_INPUT = {
        {"0", "16384", "e115a1134777538474a6b43ba2db8d6a3da5263ce15e0f62b90f9572c123a68c"},
        {"0", "16383", "f680374209f1e19d6fc5b140eebcd77eb619f87186138a3279eccd834a1bcd46"},
        {"0", "8192", "b6e589551c8d5bc0d9acdbb95c94788bb819ace27afecfb274a369adcdb0d421"},
        {"1", "16384", "484950f233d1ace58421932ab94b8aace0c6c9d1b5d1c0ef06b579a4894aaf10"},
        {"1", "16383", "47ef15497c5a9f85a5d269a77b5a51149798ef9949a8c236d9e990272602d9bc"},
        {"1", "8192", "f59e422e02734793a542546089c6518ca5c80f28509b97abc0ea243fe0e0a61f"},
        {"2", "16384", "ed6d39421ce6a2bee2426b37774547abba089b9a89c5d79e4aa10d58be7ed667"},
        {"2", "16383", "811295a7280a57ce7c368dec34f6fc50fc91d20bf2b09cf60ee38b635096532a"},
        {"2", "8192", "2570aa71ccac51eba1b40243063458d0ca2b13fc9fa6ed1ea22dca2e8d0566a9"},
        {"3", "16384", "59e5af2025dbe197e11f5dd23021a6863bd287be114dcf09753d5951831c54f0"},
        {"3", "16383", "3d65140bdab35478bb41ab314707e44f31b9a06dd1edce6ea923cfac135fd6b1"},
        {"3", "8192", "b7c1cfbb09340a164f5b1752cffc742ad695af3ebb9a275ca8796a72130bae6d"},
    };
}
